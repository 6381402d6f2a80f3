import java.math.BigInteger;
import java.util.function.Supplier;

/** What is asked and changes nothing: who hears, by which way, whose it is, what was heard, odds and seeds. */
final class QuestionEdges extends Edges {
  QuestionEdges(Ledger ledger) {
    super(ledger);
  }

  void run() {
    nothingChanged();
    wakes();
    loud();
    way();
    wayFirst();
    softest();
    schedule();
    whose();
    canNot();
    heard();
    ways();
    may();
    listen();
    clocks();
    nights();
  }

  private void nothingChanged() {
    says("(Nothing is changed by these.)");
    PutBack x = Houses.busy();
    PutBack same = Houses.busy();
    String[] asking = {
      "of", "where", "far", "wakes", "loud", "way", "softest", "schedule", "owed", "took", "may", "listen", "nights", "part", "count"
    };
    for (String name : asking) {
      Calls.call(x, name, Calls.good(name));
    }
    x.wakes(30, 1, 0);
    x.wakes(30, 6, 0);
    x.way(0, 7, 0, 1);
    x.schedule(7, 1);
    x.canNot();
    x.ways();
    x.nights(999999, 59);
    x.digest();
    for (int k = 0; k < 3; k++) {
      due("status", x.status(k), same.status(k));
    }
    holds("all else is as it was:", Houses.picture(x).equals(Houses.picture(same)));
  }

  private static PutBack fiveLight() {
    PutBack x = new PutBack();
    for (int s = 0; s < 5; s++) {
      x.sleeper(1, 0, 2 * s);
    }
    return x;
  }

  private void wakes() {
    says("WAKES: SLEEPERS (bits, AWAKE or not) who would by a NOISE of n (0 .. 30) in a ROOM in a MINUTE.");
    endsOf("noise");
    due("no sleepers", new PutBack().wakes(30, 0, 0), 0);
    for (int n = 0; n <= 30; n++) {
      due("light ones from 1 to 5, by " + n, fiveLight().wakes(n, 0, 0), (1 << Math.min(n, 5)) - 1);
    }
    PutBack x = Houses.told("house;stair 0 1 9;sleeper 0 1 0;sleeper 0 7 0;");
    due("asleep", x.wakes(2, 1, 0), 1);
    x.step(0, 1);
    due("awake", x.wakes(2, 1, 0), 1);
    due("awake, too soft", x.wakes(1, 1, 0), 0);
  }

  private void loud() {
    says("LOUD: the greatest NOISE (0 .. 30) in a ROOM in a MINUTE by which nobody would.");
    asked(PutBack::new, 30, "loud", 0, 0);
    asked(PutBack::new, 30, "loud", 7, 59);
    due("not even 1", fiveLight().loud(0, 0), 0);
    PutBack x = Houses.told("house;stair 0 1 0;stair 1 2 0;sleeper 5 0 9;");
    due("from 28 on", x.loud(0, 1), 27);
    due("from 30 on", x.loud(1, 1), 29);
    due("from 32 on, that is never", x.loud(2, 1), 30);
    due("it wakes by 30", x.wakes(30, 1, 1), 1);
    due("not by 30", x.wakes(30, 2, 1), 0);
    x.sleeper(0, 2, 9);
    due("of two the one who hears more", x.loud(2, 1), 10);
    due("of two the one who hears more", x.loud(0, 0), 4);
    due("not joined", x.loud(3, 0), 30);
  }

  private void way() {
    says("WAY from a ROOM to one (the same, too) from a MINUTE on: each MINUTE a STEP, or waiting, so that nobody"
        + " (AWAKE or not) WAKES, there in MINUTE 59 at the latest: the fewest MINUTES;");
    for (int room = 0; room < 8; room++) {
      due("the same", fiveLight().way(room, room, 0, 0), 0);
      due("the same", fiveLight().way(room, room, 59, 0), 0);
    }
    PutBack row = Houses.row(0);
    for (int to = 1; to < 8; to++) {
      due("from the first minute", row.way(0, to, 0, 0), to);
      due("there in minute 59", row.way(0, to, 59 - to, 0), to);
      due("there in minute 60", row.way(0, to, 60 - to, 0), -1);
      due("back", row.way(to, 0, 59 - to, 0), to);
    }
    row.waits(59);
    due("not from now", row.way(0, 7, 0, 0), 7);
    PutBack loud = Houses.told("house;stair 0 1 2;sleeper 0 1 0;");
    due("it would wake", loud.way(0, 1, 0, 0), -1);
    loud.step(0, 1);
    due("it is awake", loud.way(0, 1, 0, 0), -1);
    due("the other way is quiet", loud.way(1, 0, 0, 0), 1);
    PutBack owl = Houses.told("house;stair 0 1 1;sleeper 4 1 0;");
    due("waiting up to minute 30", owl.way(0, 1, 0, 0), 31);
    due("waiting a minute", owl.way(0, 1, 29, 0), 2);
    due("at once", owl.way(0, 1, 30, 0), 1);
    PutBack snorer = Houses.told("house;stair 0 1 5;sleeper 5 1 0;");
    due("in minute 57", snorer.way(0, 1, 57, 0), 1);
    due("minute 58 is loud, 59 too late", snorer.way(0, 1, 58, 0), -1);
    due("too late", snorer.way(0, 1, 59, 0), -1);
    due("waiting a minute", snorer.way(0, 1, 56, 0), 2);
    PutBack around = Houses.told("house;stair 0 1 2;stair 0 2 1;stair 2 3 1;stair 3 1 1;sleeper 0 1 0;");
    due("around", around.way(0, 1, 0, 0), 3);
    due("around, too late", around.way(0, 1, 57, 0), -1);
  }

  private void wayFirst() {
    says("the ROOM in which one is a MINUTE on by such a way (the least; there already: that ROOM); none.");
    for (int room = 0; room < 8; room++) {
      due("there already", fiveLight().way(room, room, 0, 1), room);
      due("there already", fiveLight().way(room, room, 59, 1), room);
    }
    PutBack x = Houses.told("house;stair 3 7 0;stair 3 6 0;stair 3 5 0;stair 7 0 0;stair 6 0 0;");
    due("the least of two", x.way(3, 0, 0, 1), 6);
    due("not a lesser one by a longer way", x.way(3, 7, 0, 1), 7);
    due("in the last minutes", x.way(3, 0, 57, 1), 6);
    PutBack owl = Houses.told("house;stair 5 6 1;sleeper 4 6 0;");
    due("waiting", owl.way(5, 6, 0, 1), 5);
    due("waiting", owl.way(5, 6, 29, 1), 5);
    due("going", owl.way(5, 6, 30, 1), 6);
    PutBack door = Houses.told("house;stair 3 0 0;stair 3 5 0;stair 5 6 0;stair 0 1 0;stair 1 2 0;stair 1 7 4;sleeper 2 1 0;");
    due("the door is a room, too", door.way(3, 2, 0, 1), 0);
    due("but none on each way", door.way(3, 6, 0, 1), 5);
    due("waiting at the door", Houses.told("house;stair 0 1 1;sleeper 4 1 0;").way(0, 1, 29, 1), 0);
    // From minute 9 on: a step, then minute 10 is loud for each step into room 1.
    due("quiet in minute 9, not in 10", door.way(7, 1, 9, 1), 1);
    due("waiting in minute 10", door.way(7, 1, 10, 1), 7);
    PutBack tenth = Houses.told("house;stair 0 1 4;stair 1 2 4;sleeper 2 1 0;");
    due("by minute 9, then 11", tenth.way(0, 2, 9, 0), 3);
    due("in minute 9 at once", tenth.way(0, 2, 9, 1), 1);
    due("in minute 10 not yet", tenth.way(0, 2, 10, 1), 0);
    asked(PutBack::new, -1, "way", 0, 1, 0, 0);
    asked(PutBack::new, -1, "way", 0, 1, 0, 1);
    asked(() -> Houses.told("house;stair 0 1 0;"), -1, "way", 0, 1, 59, 1);
    asked(() -> Houses.told("house;stair 0 1 0;"), 1, "way", 0, 1, 58, 1);
  }

  private void softest() {
    says("SOFTEST: by STEPS alone, however one is heard: the least CREAK of the worst STAIR on a way; none.");
    for (int room = 0; room < 8; room++) {
      due("no stair at all", fiveLight().softest(room, room), 0);
    }
    asked(PutBack::new, -1, "softest", 0, 7);
    asked(PutBack::new, -1, "softest", 7, 0);
    PutBack x = Houses.told("house;stair 0 1 9;stair 2 3 0;sleeper 1 1 0;");
    due("9, and it is heard", x.softest(0, 1), 9);
    due("0", x.softest(3, 2), 0);
    due("none", x.softest(1, 2), -1);
    PutBack row = Houses.row(1);
    row.stair(0, 1, 8);
    row.stair(2, 3, 2);
    row.stair(0, 7, 9);
    due("by seven stairs, the worst of them", row.softest(0, 7), 8);
    due("by six", row.softest(1, 7), 2);
    row.stair(0, 7, 8);
    due("as soft by one", row.softest(7, 0), 8);
    row.stair(0, 7, 7);
    due("softer by one", row.softest(7, 0), 7);
    due("softer by one, then on", row.softest(0, 1), 7);
  }

  private void schedule() {
    says("SCHEDULE of two PUPILS, each from the door to a ROOM (u, v), both going each MINUTE by a STAIR or waiting, from"
        + " MINUTE 0 on, so that nobody (AWAKE or not) WAKES by either, no STAIR is used by both in one MINUTE, they are"
        + " never in one ROOM but the door when a MINUTE is over: the fewest MINUTES (up to 20) till both are there; none.");
    asked(PutBack::new, 0, "schedule", 0, 0);
    asked(PutBack::new, -1, "schedule", 0, 7);
    asked(PutBack::new, -1, "schedule", 7, 0);
    PutBack row = Houses.row(0);
    for (int u = 0; u < 8; u++) {
      for (int v = 0; v < 8; v++) {
        due("in a row, " + u + " and " + v, row.schedule(u, v), u == v && u > 0 ? -1 : Math.max(u, v));
      }
    }
    row.step(0, 1);
    row.waits(59);
    due("from the door and minute 0, not from now", row.schedule(7, 6), 7);
    PutBack fork = Houses.told("house;stair 0 1 0;stair 1 2 0;stair 1 3 0;");
    due("by one stair to two rooms: one waits", fork.schedule(2, 3), 3);
    PutBack meet = Houses.told("house;stair 0 1 0;stair 0 2 0;stair 1 3 0;stair 2 3 0;stair 3 4 0;stair 3 5 0;");
    due("by two stairs through one room: one waits", meet.schedule(4, 5), 4);
    due("not in one room", meet.schedule(3, 3), -1);
    PutBack awake = Houses.told("house;stair 0 1 2;sleeper 0 1 0;");
    due("it would wake", awake.schedule(1, 0), -1);
    awake.step(0, 1);
    due("it is awake", awake.schedule(0, 1), -1);
    // By two that snore each step is quiet in odd minutes alone; seven steps end in minute 13, the latest there is.
    PutBack odd = Houses.row(9);
    odd.sleeper(5, 3, 0);
    odd.sleeper(5, 6, 0);
    due("seven odd minutes", odd.schedule(7, 6), 14);
    due("seven odd minutes", odd.schedule(5, 7), 14);
    PutBack owl = Houses.told("house;stair 0 1 1;stair 0 2 0;sleeper 4 1 0;");
    due("quiet from minute 30 on: above 20", owl.schedule(1, 2), -1);
    due("for one alone it is not too late", owl.way(0, 1, 0, 0), 31);
    due("the other room", owl.schedule(0, 2), 1);
  }

  private void whose() {
    says("OWED: what goes back to a PUPIL: THINGS (bits) that were taken from it (it is in the row ahead of another one).");
    due("no things", new PutBack().owed(0), 0);
    PutBack x = Houses.told("house;thing 0;thing 0 1;thing 0 1 0;thing 0 0 1 0 1;thing 0 2 0 2 1;");
    due("0", x.owed(0), 8 + 16);
    due("1", x.owed(1), 4 + 8);
    due("2", x.owed(2), 16);
    PutBack y = new PutBack();
    y.thing(0);
    due("no owner", y.owed(2), 0);
    y.owner(0, 2);
    due("the last one", y.owed(2), 0);
    y.owner(0, 1);
    due("ahead of another one", y.owed(2), 1);
    due("the last one", y.owed(1), 0);

    says("TOOK: the last OWNER of a THING; none.");
    int[] last = {-1, 1, 0, 1, 1};
    for (int t = 0; t < 5; t++) {
      due("of thing " + t, x.took(t), last[t]);
    }
    asked(TermEdges::fiveThings, -1, "took", 4);
  }

  private void canNot() {
    says("CAN NOT: THINGS (bits) that can not come HOME from the door by any WAY from MINUTE 0.");
    asked(PutBack::new, 0, "canNot");
    PutBack door = new PutBack();
    for (int t = 0; t < 5; t++) {
      door.thing(0);
    }
    due("at home at the door", door.canNot(), 0);
    due("no stairs", TermEdges.fiveThings().canNot(), 31);
    PutBack x = Houses.told("house;stair 0 1 1;stair 1 2 1;stair 0 3 9;sleeper 4 1 0;sleeper 0 3 0;thing 1;thing 3;thing 2;");
    due("1 and 2 from minute 30 on, 3 never", x.canNot(), 2);
    x.waits(59);
    due("from minute 0, not from now", x.canNot(), 2);
    x.step(0, 3);
    due("from the door, and whoever is awake", x.canNot(), 2);
  }

  private void heard() {
    says("HEARD 0 .. 5, as they come: in MINUTE m (0 .. 12) a STEP made a NOISE that SLEEPER s heard (by its own KIND: it"
        + " would WAKE) (1), or did not (0).");
    endsOf("heard");
    endsOf("is");
    Supplier<PutBack> six = () -> {
      PutBack x = TermEdges.fiveSleepers();
      for (int i = 0; i < 6; i++) {
        x.heard(i % 5, 12 - i, i % 2);
      }
      return x;
    };
    due("six", six.get().count(4), 6);
    refused(six, 2, -4, "heard", 0, 0, 0);
    refused(six, 0, -2, "heard", 5, 0, 0);
    refused(six, 0, -2, "heard", 0, 13, 0);
    PutBack x = TermEdges.fiveSleepers();
    for (int i = 0; i < 6; i++) {
      due("as they come", x.heard(4, 0, 1), i + 1);
    }
    // By its own kind: an old one hears 4 in minutes 0 and 10 alone.
    for (int m = 0; m < 12; m++) {
      PutBack old = Houses.told("house;stair 0 1 4;sleeper 2 1 0;");
      old.heard(0, m, 1);
      due("in minute " + m, old.ways(), m == 0 || m == 10 ? 2048 : 0);
    }
  }

  private void ways() {
    says("WAYS: rows of 13 ROOMS, from the door on, one each MINUTE, each the one ahead (waiting: no NOISE) or behind a"
        + " STAIR, by which all HEARD are so (the STEP of MINUTE m leads from the m-th to the next; HEARD of MINUTE 12 asks"
        + " nothing).");
    due("waiting alone", new PutBack().ways(), 1);
    PutBack all = new PutBack();
    for (int a = 0; a < 8; a++) {
      for (int b = a + 1; b < 8; b++) {
        all.stair(a, b, 9);
      }
    }
    due("8 to the power of 12", all.ways(), 1L << 36);
    all.waits(59);
    due("whatever it is now", all.ways(), 1L << 36);
    PutBack x = Houses.told("house;stair 0 1 1;sleeper 3 1 9;");
    x.heard(0, 12, 1);
    due("minute 12 asks nothing", x.ways(), 4096);
    x.heard(0, 12, 0);
    due("minute 12 asks nothing", x.ways(), 4096);
    x.heard(0, 11, 1);
    due("the last step", x.ways(), 1024);
    x.heard(0, 0, 1);
    due("the first step", x.ways(), 512);
    x.heard(0, 0, 0);
    due("both can not be", x.ways(), 0);
    PutBack y = Houses.told("house;stair 0 1 1;sleeper 3 1 9;");
    y.heard(0, 0, 0);
    due("waiting is not heard", y.ways(), 2048);
    PutBack two = Houses.told("house;stair 0 1 1;stair 0 2 3;sleeper 3 1 9;sleeper 3 2 9;sleeper 1 0 0;");
    two.heard(1, 0, 1);
    two.heard(2, 0, 1);
    two.heard(0, 0, 0);
    due("all of one minute: in room 2 then", two.may(1), 4);
    two.forget();
    two.heard(0, 0, 1);
    two.heard(2, 0, 1);
    due("all of one minute can not be", two.ways(), 0);
    two.forget();
    two.heard(0, 0, 0);
    two.heard(1, 0, 0);
    due("none of one minute: waiting", two.may(1), 1);
    PutBack z = Houses.told("house;sleeper 3 0 9;");
    z.heard(0, 3, 1);
    due("waiting makes no noise", z.ways(), 0);
  }

  private void may() {
    says("MAY: ROOMS (bits) in which one is in MINUTE m (0 .. 12) by some of them; how many WAYS.");
    endsOf("may");
    due("the door alone", new PutBack().may(12), 1);
    PutBack row = Houses.row(0);
    for (int m = 0; m < 13; m++) {
      due("in minute " + m, row.may(m), (1 << Math.min(m + 1, 8)) - 1);
    }
    PutBack x = Houses.told("house;stair 0 1 1;sleeper 3 1 9;");
    x.heard(0, 11, 1);
    due("in minute 11", x.may(11), 1);
    due("in minute 12", x.may(12), 2);
    due("in minute 10", x.may(10), 3);
    due("how many", x.ways(), 1024);
    x.heard(0, 10, 1);
    for (int m = 0; m < 13; m++) {
      due("no ways: in minute " + m, x.may(m), 0);
    }
  }

  private void listen() {
    says("LISTEN in MINUTE m (0 .. 11): the SLEEPER by whom, hearing that STEP or not, the greater part of WAYS is least;"
        + " of like ones the first; none: no SLEEPERS, no WAYS.");
    endsOf("listen");
    asked(PutBack::new, -1, "listen", 0);
    asked(PutBack::new, -1, "listen", 11);
    asked(() -> Houses.told("house;sleeper 0 0 0;"), 0, "listen", 11);
    asked(TermEdges::fiveSleepers, 0, "listen", 0);
    asked(() -> noWays(), -1, "listen", 0);
    asked(() -> noWays(), -1, "listen", 11);
    // Of the four ways a first step goes the last sleeper hears two, the others one or none.
    PutBack x = Houses.told("house;stair 0 1 3;stair 0 2 3;stair 0 3 1;sleeper 0 7 0;sleeper 3 3 9;sleeper 0 1 1;sleeper 1 0 0;");
    due("the greater part is least by the last", x.listen(0), 3);
    PutBack last = Houses.told("house;stair 0 1 1;sleeper 3 1 9;sleeper 3 0 9;");
    due("in the first minute it is never back", last.listen(0), 0);
    due("later they are alike: the first", last.listen(1), 0);
    last.heard(0, 0, 1);
    due("then it is in room 1", last.listen(1), 1);
    due("later they are alike again", last.listen(11), 0);
    // Of four ways a first step goes, all as many, one hears one and one hears three: the greater part is alike.
    String four = "house;stair 0 1 3;stair 0 2 3;stair 0 3 3;stair 1 2 3;stair 1 3 3;stair 2 3 3;";
    due("one, then three", Houses.told(four + "sleeper 3 1 9;sleeper 1 0 0;").listen(0), 0);
    due("three, then one", Houses.told(four + "sleeper 1 0 0;sleeper 3 1 9;").listen(0), 0);
    PutBack known = Houses.told("house;stair 0 1 1;stair 0 2 1;sleeper 3 1 9;sleeper 3 2 9;");
    known.heard(0, 0, 0);
    due("what is known of that step tells nothing new", known.listen(0), 1);
  }

  private static PutBack noWays() {
    PutBack x = Houses.told("house;sleeper 0 0 0;");
    x.heard(0, 0, 1);
    return x;
  }

  private void clocks() {
    says("CLOCKS: by c of 10 (0 .. 10) each SLEEPER, apart, is awake anyway: the chance that n (0 .. 5) or fewer are awake"
        + " (so, AWAKE now, or by this) behind a NOISE of 9 in a ROOM now: THE FRACTION.");
    endsOf("odds");
    endsOf("fewer");
    PutBack none = new PutBack();
    none.clocks(0, 10, 0);
    fraction("no sleepers", none, 1, 1);
    PutBack five = TermEdges.fiveSleepers();
    long[][] wants = {
      {0, 0, 1, 1}, {0, 5, 1, 1}, {10, 4, 0, 1}, {10, 5, 1, 1}, {5, 0, 1, 32}, {5, 4, 31, 32},
      {1, 0, 59049, 100000}, {3, 2, 20923, 25000}, {9, 4, 40951, 100000}, {7, 5, 1, 1}
    };
    for (long[] want : wants) {
      five.clocks(0, (int) want[0], (int) want[1]);
      fraction("five by " + want[0] + " of 10, " + want[1] + " or fewer", five, want[2], want[3]);
    }
    PutBack x = Houses.told("house;stair 0 1 9;sleeper 0 0 7;sleeper 0 0 8;sleeper 0 1 5;sleeper 0 1 6;");
    x.clocks(0, 0, 1);
    fraction("9 wakes by 9, and by 7 from the next room: two", x, 0, 1);
    x.clocks(0, 0, 2);
    fraction("two or fewer", x, 1, 1);
    x.clocks(1, 0, 1);
    fraction("in the other room two others", x, 0, 1);
    x.clocks(7, 0, 0);
    fraction("in a room not joined", x, 1, 1);
    x.step(0, 1);
    x.clocks(7, 0, 1);
    fraction("two are awake now", x, 0, 1);
    x.clocks(0, 0, 3);
    fraction("awake now or by this: three", x, 1, 1);
    x.clocks(0, 0, 2);
    fraction("awake now or by this: three", x, 0, 1);
    PutBack old = Houses.told("house;sleeper 2 0 9;");
    old.clocks(0, 0, 0);
    fraction("now is minute 0", old, 0, 1);
    old.waits(9);
    old.clocks(0, 0, 0);
    fraction("now is minute 9", old, 1, 1);
    old.waits(1);
    old.clocks(0, 4, 0);
    fraction("now is minute 10", old, 0, 1);
    due("nobody woke", old.count(3), 0);
  }

  private void nights() {
    says("NIGHTS by a SEED (0 .. 999999), n (0 .. 59) MINUTES from now: X is SEED at first; each MINUTE, PUPIL by PUPIL, X"
        + " becomes X times 1103515245 and 12345, by 2147483648 what is left over; X by 65536 (cut), by 8 left over, is the"
        + " ROOM to which one goes, if there is a STAIR (that MINUTE's NOISE; the MINUTE is one more behind all three): how"
        + " many are AWAKE then.");
    endsOf("seed");
    endsOf("span");
    int[] seeds = {0, 1, 65535, 65536, 500000, 999998, 999999};
    int[] spans = {0, 1, 2, 9, 10, 30, 58, 59};
    int[] starts = {0, 1, 29, 58, 59};
    for (int start : starts) {
      PutBack x = dark();
      if (start > 0) {
        x.waits(start);
      }
      for (int seed : seeds) {
        for (int span : spans) {
          due("seed " + seed + ", " + span + " minutes from " + start, x.nights(seed, span), awake(seed, span, start));
        }
      }
    }
    PutBack old = Houses.told("house;stair 0 4 4;sleeper 2 4 0;");
    due("minute 0 has all three pupils", old.nights(0, 1), 1);
    old.waits(51);
    due("there is no minute 60", old.nights(0, 59), 0);
    old.step(0, 4);
    old.stair(0, 4, 5);
    due("by a louder stair", old.nights(0, 59), 1);
    PutBack up = Houses.told("house;stair 0 1 9;sleeper 0 1 0;");
    up.step(0, 1);
    due("awake already, no minute", up.nights(0, 0), 1);
  }

  private static final int[][] DARK_STAIRS = {{0, 4, 4}, {4, 2, 3}, {2, 0, 2}, {4, 7, 5}, {4, 3, 0}, {3, 1, 6}};

  private static PutBack dark() {
    PutBack x = new PutBack();
    for (int[] stair : DARK_STAIRS) {
      x.stair(stair[0], stair[1], stair[2]);
    }
    int[][] sleepers = {{2, 4, 0}, {5, 2, 0}, {4, 7, 9}, {0, 1, 4}, {0, 7, 3}};
    for (int[] s : sleepers) {
      x.sleeper(s[0], s[1], s[2]);
    }
    return x;
  }

  /** The same by great numbers, from the door; who hears is asked of another such house. */
  private static int awake(int seed, int span, int start) {
    PutBack ears = dark();
    BigInteger z = BigInteger.valueOf(seed);
    int[] at = new int[3];
    int up = 0;
    for (int i = 0; i < span; i++) {
      for (int p = 0; p < 3; p++) {
        z = z.multiply(BigInteger.valueOf(1103515245)).add(BigInteger.valueOf(12345)).mod(BigInteger.valueOf(2147483648L));
        int room = z.divide(BigInteger.valueOf(65536)).mod(BigInteger.valueOf(8)).intValue();
        int creak = creakBetween(at[p], room);
        if (creak >= 0) {
          up |= ears.wakes(creak, room, Math.min(59, start + i));
          at[p] = room;
        }
      }
    }
    return Integer.bitCount(up);
  }

  private static int creakBetween(int a, int b) {
    for (int[] stair : DARK_STAIRS) {
      if (stair[0] == a && stair[1] == b || stair[1] == a && stair[0] == b) {
        return stair[2];
      }
    }
    return -1;
  }
}
