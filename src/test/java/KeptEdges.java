import java.util.function.Supplier;

/** What is kept and counted: what may be undone, images, the fraction, what was refused and in which order. */
final class KeptEdges extends Edges {
  KeptEdges(Ledger ledger) {
    super(ledger);
  }

  void run() {
    undo();
    undoBehindSleeper();
    images();
    status();
    fraction();
    refused();
  }

  private void undo() {
    says("UNDO: where PUPILS are, who is AWAKE, the MINUTE as ahead of the last STEP, MINUTE waited (8 at most;");
    for (int steps = 0; steps <= 10; steps++) {
      PutBack x = Houses.told("house;stair 0 1 2;sleeper 0 1 0;");
      for (int i = 0; i < steps; i++) {
        x.step(i % 3, i / 3 % 2 == 0 ? 1 : 0);
      }
      int kept = Math.min(steps, 8);
      due("kept behind " + steps + " steps", x.count(5), kept);
      for (int i = 1; i <= kept; i++) {
        due("the minute", x.undo(), steps - i);
        for (int p = 0; p < 3; p++) {
          due("where " + p + " was", x.where(p), (steps - i + 2 - p) / 3 % 2);
        }
        due("whether it was awake", x.of(0, 3), steps == i ? 0 : 1);
        due("kept yet", x.count(5), kept - i);
      }
      due("no more", x.undo(), -3);
      due("the minute stays", x.count(2), steps - kept);
    }
    PutBack y = new PutBack();
    for (int i = 1; i <= 9; i++) {
      y.waits(i);
    }
    due("9 were waited", y.count(2), 45);
    due("8 kept", y.count(5), 8);
    int[] back = {36, 28, 21, 15, 10, 6, 3, 1};
    for (int minute : back) {
      due("together one", y.undo(), minute);
    }
    due("no more", y.undo(), -3);
    PutBack late = new PutBack();
    late.waits(59);
    late.waits(59);
    due("waited in the last minute", late.undo(), 59);
    due("waited up to it", late.undo(), 0);
  }

  private void undoBehindSleeper() {
    says("behind a SLEEPER that comes none may be).");
    Supplier<PutBack> full = () -> {
      PutBack x = TermEdges.fiveSleepers();
      x.waits(3);
      return x;
    };
    refused(full, 2, -4, "sleeper", 0, 0, 0);
    refused(full, 0, -2, "sleeper", 0, 0, 10);
    PutBack x = full.get();
    x.sleeper(0, 0, 0);
    due("one that did not come leaves it", x.undo(), 0);
    PutBack y = new PutBack();
    y.waits(1);
    y.waits(1);
    y.thing(0);
    y.stair(0, 1, 0);
    y.owner(0, 0);
    due("a thing, a stair, an owner leave it", y.count(5), 2);
    y.sleeper(0, 0, 0);
    due("none", y.count(5), 0);
    due("none", y.undo(), -3);
    due("the minute stays", y.count(2), 2);
    y.waits(1);
    due("what comes then may be", y.undo(), 2);
  }

  private void images() {
    says("IMAGES 0, 1 keep all but them, THE TEXT, THE FRACTION and STATUS; what may be undone they keep; it goes on from one.");
    endsOf("image");
    refused(PutBack::new, 1, -3, "from", 0);
    refused(PutBack::new, 1, -3, "from", 1);
    PutBack x = Houses.busy();
    x.image(1);
    PutBack same = Houses.busy();
    same.image(1);
    x.house();
    x.stair(3, 4, 5);
    x.stair(0, 5, 9);
    x.sleeper(1, 0, 1);
    x.thing(3);
    for (int i = 0; i < 6; i++) {
      x.heard(0, 11 - i, 1);
    }
    for (int i = 0; i < 9; i++) {
      x.step(i % 3, x.where(i % 3) == 0 ? 5 : 0);
      x.waits(2 + i);
    }
    x.from(1);
    holds("all of it, what may be undone, the other image:", Houses.picture(x).equals(Houses.picture(same)));
    for (int i = 0; i < 2; i++) {
      PutBack y = new PutBack();
      due("a new one is kept", y.image(i), 1);
      y.waits(5);
      y.type(104);
      y.sleeper(0, 0, 9);
      y.clocks(1, 4, 0);
      y.undo();
      due("the other one was not", y.from(1 - i), -3);
      due("it goes on", y.from(i), 1);
      due("the minute", y.count(2), 0);
      due("no sleeper", y.count(0), 0);
      due("the text stays", y.count(6), 1);
      fraction("the fraction stays", y, 3, 5);
      due("status stays", y.status(1), 2);
      due("nothing to undo", y.undo(), -3);
      y.waits(7);
      due("it is not changed by what comes behind", y.from(i), 1);
      due("the minute", y.count(2), 0);
    }
  }

  private void status() {
    says("STATUS: how many calls were refused as BAD, NO, FULL (each answer told so below is such a one).");
    PutBack x = new PutBack();
    for (int k = 0; k < 3; k++) {
      due("none yet", x.status(k), 0);
    }
    for (String name : Calls.names()) {
      int[] n = Calls.good(name);
      n[0] = -1;
      due(name + " refused", Calls.call(x, name, n), Calls.bad(name));
    }
    due("one each", x.status(0), Calls.names().size());
    due("no NO", x.status(1), 0);
    x.undo();
    x.step(0, 1);
    x.from(0);
    due("three NO", x.status(1), 3);
    for (int i = 0; i < 151; i++) {
      x.type(32);
    }
    for (int i = 0; i < 6; i++) {
      x.thing(0);
      x.sleeper(0, 0, 0);
    }
    for (int i = 0; i < 5; i++) {
      x.owner(0, i % 2);
    }
    for (int i = 0; i < 7; i++) {
      x.heard(0, 0, 0);
    }
    due("five FULL", x.status(2), 5);
    due("the others stay", x.status(0) * 1000 + x.status(1), Calls.names().size() * 1000 + 3);
  }

  private void fraction() {
    says("THE FRACTION is 0 by 1 at first; lowest terms, below above 0.");
    fraction("at first", new PutBack(), 0, 1);
    PutBack x = TermEdges.fiveSleepers();
    fraction("at first", x, 0, 1);
    for (int c = 0; c <= 10; c++) {
      for (int n = 0; n <= 5; n++) {
        x.clocks(0, c, n);
        long above = x.part(0);
        long below = x.part(1);
        holds("below above 0:", below > 0);
        holds("a part of all:", above >= 0 && above <= below && 100000 % below == 0);
        holds("lowest terms:", above == 0 ? below == 1 : above % 2 + below % 2 > 0 && above % 5 + below % 5 > 0);
      }
    }
  }

  private void refused() {
    says("Refused, changing nothing but STATUS, the first of: BAD -2 a number is not as told; NO -3 as told; FULL -4 (where"
        + " others are told they count as these).");
    due("NONE", PutBack.NONE, -1);
    due("BAD", PutBack.BAD, -2);
    due("NO", PutBack.NO, -3);
    due("FULL", PutBack.FULL, -4);
    refused(PutBack::new, 0, -2, "step", 3, 1);
    refused(PutBack::new, 1, -3, "step", 2, 1);
    refused(PutBack::new, 0, -2, "from", 2);
    refused(TermEdges::fiveSleepers, 0, -2, "sleeper", 6, 0, 0);
    refused(TermEdges::fiveSleepers, 2, -4, "sleeper", 5, 7, 9);
    refused(TermEdges::fiveThings, 0, -2, "thing", 8);
    refused(TermEdges::fiveThings, 2, -4, "thing", 7);
    Supplier<PutBack> owned = () -> Houses.told("house;thing 0 0 1 0 1;");
    refused(owned, 0, -2, "owner", 0, 1);
    refused(owned, 0, -2, "owner", 0, 3);
    refused(owned, 2, -4, "owner", 0, 2);
    refused(Houses::busy, 0, -10, "stair", 0, 0, 0);
    refused(Houses::busy, 0, -1, "status", 3);
  }
}
