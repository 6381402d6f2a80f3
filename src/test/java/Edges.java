import java.util.Arrays;
import java.util.List;
import java.util.function.Supplier;

/** What tests of edges share: both ends of a number, and that a refused call leaves all as it was. */
abstract class Edges {
  private static final String[] REASONS = {"BAD", "NO", "FULL"};
  private final Ledger ledger;

  Edges(Ledger ledger) {
    this.ledger = ledger;
  }

  abstract void run();

  final void says(String words) {
    ledger.says(words);
  }

  final void due(String what, long got, long want) {
    ledger.due(what, got, want);
  }

  final void holds(String what, boolean so) {
    ledger.holds(what, so);
  }

  final void fraction(String what, PutBack x, long above, long below) {
    due(what + ", above", x.part(0), above);
    due(what + ", below", x.part(1), below);
  }

  /** Each call that asks for such a number takes its ends, and refuses what is beyond them. */
  final void endsOf(String sort) {
    for (String name : Calls.names()) {
      List<Calls.Place> places = Calls.places(name);
      for (int i = 0; i < places.size(); i++) {
        if (places.get(i).sort().equals(sort)) {
          ends(Houses::busy, name, i, places.get(i).least(), places.get(i).most());
        }
      }
    }
  }

  /** All numbers of a call, one by one. */
  final void endsIn(String name) {
    List<Calls.Place> places = Calls.places(name);
    for (int i = 0; i < places.size(); i++) {
      ends(Houses::busy, name, i, places.get(i).least(), places.get(i).most());
    }
  }

  final void ends(Supplier<PutBack> made, String name, int place, int least, int most) {
    for (int number = least; number <= most; number += Math.max(1, most - least)) {
      PutBack x = made.get();
      int bads = x.status(0);
      int[] n = with(Calls.good(name), place, number);
      Calls.call(x, name, n);
      due(name + Arrays.toString(n) + " is not BAD: status(0)", x.status(0), bads);
    }
    int[] beyond = {least - 1, most + 1, Integer.MIN_VALUE, Integer.MAX_VALUE};
    for (int number : beyond) {
      refused(made, 0, Calls.bad(name), name, with(Calls.good(name), place, number));
    }
  }

  private static int[] with(int[] numbers, int place, int number) {
    int[] n = numbers.clone();
    n[place] = number;
    return n;
  }

  /** The call answers so, is counted once by this reason and by no other, and changes nothing else. */
  final void refused(Supplier<PutBack> made, int reason, long answer, String name, int... n) {
    PutBack x = made.get();
    PutBack same = made.get();
    String what = name + Arrays.toString(n);
    due(what, Calls.call(x, name, n), answer);
    for (int k = 0; k < 3; k++) {
      int was = same.status(k);
      due(what + " as counted by " + REASONS[k], x.status(k), k == reason ? was + 1 : was);
    }
    holds(what + " changes nothing:", Houses.picture(x).equals(Houses.picture(same)));
  }

  /** The call answers so, and changes nothing, status neither. */
  final void asked(Supplier<PutBack> made, long answer, String name, int... n) {
    refused(made, -1, answer, name, n);
  }
}
