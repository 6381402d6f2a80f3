import java.util.function.Supplier;

/** Promises 1 to 36, each by its own words: both ends of each number, nothing there yet, no more room. */
final class PromiseEdges extends Edges {
  PromiseEdges(Ledger ledger) {
    super(ledger);
  }

  void run() {
    newObject();
    house();
    stairSleeperThing();
    owner();
    text();
    read();
    stepAndWaits();
    undo();
    ofWhereFar();
    whoHears();
    whoseItIs();
    heardAndForget();
    whatWasHeard();
    clocksAndNights();
    images();
    status();
    count();
    digest();
  }

  private void newObject() {
    says("As told; no STAIRS, SLEEPERS, THINGS.");
    PutBack x = new PutBack();
    for (int what = 0; what < 7; what++) {
      due("count " + what, x.count(what), 0);
    }
    for (int a = 0; a < 8; a++) {
      for (int b = 0; b < 8; b++) {
        due("far", x.far(a, b), a == b ? 0 : -1);
      }
    }
    for (int k = 0; k < 3; k++) {
      due("status", x.status(k), 0);
      due("where", x.where(k), 0);
      due("owed", x.owed(k), 0);
    }
    due("ways", x.ways(), 1);
    due("can not", x.canNot(), 0);
    fraction("the fraction", x, 0, 1);
    due("no sleeper", x.of(0, 0), -2);
    due("no thing", x.took(0), -2);
    due("no image", x.from(0), -3);
    due("no image", x.from(1), -3);
    due("nothing to undo", x.undo(), -3);
    due("an empty text", x.read(), -10);
  }

  private void house() {
    says("All as at first (but for IMAGES, THE TEXT, THE FRACTION, STATUS): how many SLEEPERS there were.");
    for (int many = 0; many <= 5; many++) {
      PutBack x = new PutBack();
      for (int s = 0; s < many; s++) {
        x.sleeper(0, 0, 0);
      }
      due("how many there were", x.house(), many);
      due("and then", x.house(), 0);
    }
    Supplier<PutBack> cleared = () -> {
      PutBack x = Houses.busy();
      x.house();
      return x;
    };
    PutBack x = cleared.get();
    PutBack was = Houses.busy();
    int[] counts = {0, 0, 0, 0, 0, 0, was.count(6)};
    for (int what = 0; what < 7; what++) {
      due("count " + what, x.count(what), counts[what]);
    }
    for (int k = 0; k < 3; k++) {
      due("status stays", x.status(k), was.status(k));
      due("at the door", x.where(k), 0);
    }
    fraction("the fraction stays", x, was.part(0), was.part(1));
    for (int a = 0; a < 8; a++) {
      for (int b = 0; b < a; b++) {
        due("no stairs", x.far(a, b), -1);
      }
    }
    due("the images stay", x.from(0), 1);
    was.from(0);
    due("as they were", x.digest(), was.digest());
    due("one not kept is not", x.from(1), -3);
    due("the text stays", x.read(), 8);
    due("room for five again", roomForFive(cleared.get()), 5);
  }

  private static int roomForFive(PutBack x) {
    for (int i = 0; i < 5; i++) {
      x.thing(i);
    }
    return x.count(1);
  }

  private void stairSleeperThing() {
    says("A STAIR: what it CREAKED (NONE: there was none). BAD: -10.");
    endsIn("stair");
    PutBack x = new PutBack();
    due("there was none", x.stair(7, 0, 0), -1);
    due("0", x.stair(0, 7, 9), 0);
    due("9", x.stair(0, 7, 9), 9);
    due("none is no refusal", x.status(0), 0);
    refused(PutBack::new, 0, -10, "stair", 7, 7, 9);

    says("A SLEEPER: the number. BAD; FULL: 5.");
    endsIn("sleeper");
    refused(TermEdges::fiveSleepers, 2, -4, "sleeper", 0, 0, 0);
    refused(TermEdges::fiveSleepers, 0, -2, "sleeper", 0, 8, 0);
    PutBack y = new PutBack();
    for (int s = 0; s < 5; s++) {
      due("the number", y.sleeper(5, 7, 9), s);
    }
    due("full", y.sleeper(5, 7, 9), -4);
    due("five", y.count(0), 5);
    y.house();
    due("the first again", y.sleeper(0, 0, 0), 0);

    says("A THING: its number. BAD; FULL: 5.");
    endsIn("thing");
    refused(TermEdges::fiveThings, 2, -4, "thing", 0);
    refused(TermEdges::fiveThings, 0, -2, "thing", -1);
    PutBack z = new PutBack();
    for (int t = 0; t < 5; t++) {
      due("the number", z.thing(7), t);
    }
    due("full", z.thing(7), -4);
    z.house();
    due("the first again", z.thing(0), 0);
  }

  private void owner() {
    says("An OWNER behind the row of a THING: how many it has. BAD: the last one again, too; FULL: 4.");
    endsIn("owner");
    for (int pupil = 0; pupil < 3; pupil++) {
      int p = pupil;
      int other = (pupil + 1) % 3;
      Supplier<PutBack> one = () -> owned(p);
      Supplier<PutBack> four = () -> owned(other, p, other, p);
      refused(one, 0, -2, "owner", 0, p);
      refused(four, 0, -2, "owner", 0, p);
      refused(four, 2, -4, "owner", 0, other);
      refused(four, 0, -2, "owner", 0, 3);
      due("the one ahead of the last", owned(p, other).owner(0, p), 3);
    }
    PutBack x = TermEdges.fiveThings();
    for (int t = 0; t < 5; t++) {
      for (int i = 1; i <= 4; i++) {
        due("how many", x.owner(t, i % 3), i);
      }
      due("full", x.owner(t, 0), -4);
    }
    x.house();
    x.thing(0);
    due("a new thing has none", x.owner(0, 1), 1);
  }

  private static PutBack owned(int... row) {
    PutBack x = new PutBack();
    x.thing(0);
    for (int pupil : row) {
      x.owner(0, pupil);
    }
    return x;
  }

  private static PutBack fullText() {
    PutBack x = Houses.busy();
    Houses.type(x, "house;" + " ".repeat(144));
    return x;
  }

  private void text() {
    says("A byte (0 .. 127) comes behind THE TEXT: how many it has. BAD; FULL.");
    endsIn("type");
    PutBack x = new PutBack();
    for (int i = 1; i <= 150; i++) {
      due("how many", x.type(i % 128), i);
    }
    due("the 151st", x.type(0), -4);
    due("150 stay", x.count(6), 150);
    refused(PromiseEdges::fullText, 2, -4, "type", 59);
    refused(PromiseEdges::fullText, 2, -4, "type", 127);
    refused(PromiseEdges::fullText, 0, -2, "type", 128);
    refused(PromiseEdges::fullText, 0, -2, "type", -1);

    says("THE TEXT is empty: how many it had.");
    due("none", new PutBack().clear(), 0);
    PutBack y = fullText();
    due("all", y.clear(), 150);
    due("then none", y.clear(), 0);
    due("it is empty", y.count(6), 0);
    due("room for one", y.type(32), 1);
    due("nothing of the old one is read", y.read(), -11);
  }

  private void read() {
    says("THE HOUSE is read: how many ITEMS. -10 less the FAULT: all stays.");
    due("one", Houses.read(new PutBack(), "house;"), 1);
    due("thirteen", Houses.read(new PutBack(), "house;" + "stair 0 1 0;".repeat(12)), 13);
    asked(PutBack::new, -10, "read");
    Supplier<PutBack> faulty = () -> {
      PutBack x = Houses.busy();
      Houses.type(x, "house;stair 4 5 6;sleeper 1 1 1;thing 3 1 2;thing 8;");
      return x;
    };
    asked(faulty, -60, "read");
    asked(() -> {
      PutBack x = Houses.busy();
      Houses.type(x, " ".repeat(150));
      return x;
    }, -160, "read");
    PutBack x = faulty.get();
    due("a fault", x.read(), -60);
    due("the same again", x.read(), -60);
    due("no FULL by it: a thing may come", x.thing(0), 2);
  }

  private void stepAndWaits() {
    says("A STEP of a PUPIL: SLEEPERS who WAKE by it (bits). BAD; NO: there is no such STAIR.");
    endsIn("step");
    for (int room = 0; room < 8; room++) {
      refused(PutBack::new, 1, -3, "step", 0, room);
    }
    refused(Houses::busy, 1, -3, "step", 1, 1);
    refused(Houses::busy, 1, -3, "step", 1, 7);
    PutBack x = new PutBack();
    x.stair(0, 7, 9);
    for (int s = 0; s < 5; s++) {
      x.sleeper(0, 7, s == 2 ? 8 : 7);
    }
    due("all who hear 9", x.step(2, 7), 27);
    due("all who hear 7: none", x.step(2, 0), 0);
    due("again, awake as they are", x.step(0, 7), 27);
    due("nobody", new PutBack().step(0, 0), -3);

    says("n MINUTES are waited (1 .. 59; together one that may be undone): the MINUTE. BAD.");
    endsIn("waits");
    due("1", new PutBack().waits(1), 1);
    due("59", new PutBack().waits(59), 59);
    PutBack y = new PutBack();
    due("58", y.waits(58), 58);
    due("59 at most", y.waits(59), 59);
    due("59 at most", y.waits(1), 59);
    due("three", y.count(5), 3);
    due("together one", y.undo() * 10000 + y.undo() * 100 + y.undo(), 595800);
  }

  private void undo() {
    says("UNDO: the MINUTE then. NO: none may be.");
    refused(PutBack::new, 1, -3, "undo");
    PutBack x = Houses.busy();
    int many = x.count(5);
    for (int i = 0; i < many; i++) {
      due("the minute then", x.undo(), new int[] {3, 2, 1, 0}[i]);
    }
    due("four there were", many, 4);
    due("none may be", x.undo(), -3);
    refused(() -> {
      PutBack y = Houses.busy();
      y.house();
      return y;
    }, 1, -3, "undo");
    refused(() -> {
      PutBack y = Houses.busy();
      y.read();
      return y;
    }, 1, -3, "undo");
  }

  private void ofWhereFar() {
    says("Of a SLEEPER: KIND (0), ROOM (1), EARS (2), whether AWAKE (3; 1, 0). BAD.");
    endsIn("of");
    refused(PutBack::new, 0, -2, "of", 0, 3);
    PutBack x = Houses.told("house;stair 0 7 9;sleeper 5 7 9;sleeper 0 0 0;sleeper 1 7 9;");
    x.waits(1);
    x.step(0, 7);
    int[][] want = {{5, 7, 9, 0}, {0, 0, 0, 1}, {1, 7, 9, 1}};
    for (int s = 0; s < 3; s++) {
      for (int what = 0; what < 4; what++) {
        due("of(" + s + ", " + what + ")", x.of(s, what), want[s][what]);
      }
    }
    due("no fourth", x.of(3, 0), -2);

    says("Where a PUPIL is. BAD.");
    endsIn("where");
    due("at first", new PutBack().where(2), 0);
    due("there", x.where(0), 7);

    says("FAR. NONE. BAD.");
    endsIn("far");
    asked(PutBack::new, -1, "far", 7, 0);
    due("one", x.far(7, 0), 1);
    due("none", x.far(7, 7), 0);
  }

  private void whoHears() {
    says("WAKES, as bits. BAD.");
    endsIn("wakes");
    asked(PutBack::new, 0, "wakes", 30, 7, 59);
    asked(TermEdges::fiveSleepers, 16, "wakes", 30, 3, 59);
    asked(TermEdges::fiveSleepers, 1, "wakes", 30, 7, 0);
    due("all of one room", sleepersAtDoor().wakes(30, 0, 0), 31);
    due("none of them", sleepersAtDoor().wakes(0, 0, 0), 0);

    says("LOUD. BAD.");
    endsIn("loud");
    asked(PutBack::new, 30, "loud", 0, 59);
    asked(PromiseEdges::sleepersAtDoor, 1, "loud", 0, 59);

    says("WAY: MINUTES (0), the first ROOM (1). NONE. BAD.");
    endsIn("way");
    asked(PutBack::new, -1, "way", 0, 7, 0, 0);
    asked(PutBack::new, -1, "way", 0, 7, 0, 1);
    asked(PutBack::new, 0, "way", 7, 7, 59, 0);
    asked(PutBack::new, 7, "way", 7, 7, 59, 1);

    says("SOFTEST. NONE. BAD.");
    endsIn("softest");
    asked(PutBack::new, -1, "softest", 0, 7);
    asked(PutBack::new, 0, "softest", 7, 7);

    says("SCHEDULE. NONE. BAD.");
    endsIn("schedule");
    asked(PutBack::new, -1, "schedule", 7, 7);
    asked(PutBack::new, 0, "schedule", 0, 0);
  }

  private static PutBack sleepersAtDoor() {
    PutBack x = new PutBack();
    for (int s = 0; s < 5; s++) {
      x.sleeper(0, 0, 0);
    }
    return x;
  }

  private void whoseItIs() {
    says("OWED, as bits. BAD.");
    endsIn("owed");
    asked(PutBack::new, 0, "owed", 2);
    PutBack x = TermEdges.fiveThings();
    for (int t = 0; t < 5; t++) {
      x.owner(t, 2);
      due("the last one of each", x.owed(2), (1 << t) - 1);
      x.owner(t, 0);
      due("taken from it", x.owed(2), (2 << t) - 1);
    }
    due("from the others none", x.owed(0) + x.owed(1), 0);

    says("TOOK. NONE. BAD.");
    endsIn("took");
    refused(PutBack::new, 0, -2, "took", 0);
    asked(TermEdges::fiveThings, -1, "took", 4);
    refused(TermEdges::fiveThings, 0, -2, "took", 5);
    due("the last one", x.took(4), 0);

    says("CAN NOT, as bits.");
    asked(PutBack::new, 0, "canNot");
    asked(TermEdges::fiveThings, 31, "canNot");
  }

  private void heardAndForget() {
    says("HEARD: how many there are. BAD; FULL: 6.");
    endsIn("heard");
    refused(PutBack::new, 0, -2, "heard", 0, 0, 0);
    PutBack x = TermEdges.fiveSleepers();
    for (int i = 1; i <= 6; i++) {
      due("how many", x.heard(0, 12, 1), i);
    }
    due("a seventh", x.heard(0, 12, 1), -4);
    refused(PromiseEdges::sixHeard, 2, -4, "heard", 4, 12, 1);
    refused(PromiseEdges::sixHeard, 0, -2, "heard", 4, 12, 2);

    says("No HEARD: how many there were.");
    due("none", new PutBack().forget(), 0);
    PutBack y = sixHeard();
    due("six", y.forget(), 6);
    due("none", y.count(4), 0);
    due("none", y.forget(), 0);
    due("room for one", y.heard(0, 0, 0), 1);
    PutBack z = Houses.told("house;sleeper 0 0 0;");
    z.heard(0, 0, 1);
    due("none fits", z.ways(), 0);
    z.forget();
    due("it asks nothing any more", z.ways(), 1);
  }

  private static PutBack sixHeard() {
    PutBack x = TermEdges.fiveSleepers();
    for (int i = 0; i < 6; i++) {
      x.heard(4, i, 0);
    }
    return x;
  }

  private void whatWasHeard() {
    says("MAY, as bits. BAD.");
    endsIn("may");
    asked(PutBack::new, 1, "may", 0);
    asked(PutBack::new, 1, "may", 12);

    says("How many WAYS.");
    asked(PutBack::new, 1, "ways");
    PutBack x = Houses.told("house;stair 0 1 9;");
    due("2 to the power of 12", x.ways(), 4096);
    x.stair(0, 2, 9);
    x.stair(1, 2, 9);
    due("3 to the power of 12", x.ways(), 531441);

    says("LISTEN. NONE. BAD.");
    endsIn("listen");
    asked(PutBack::new, -1, "listen", 11);
    asked(TermEdges::fiveSleepers, 0, "listen", 11);
  }

  private void clocksAndNights() {
    says("CLOCKS are THE FRACTION: 1. BAD.");
    endsIn("clocks");
    PutBack x = sleepersAtDoor();
    due("it answers", x.clocks(0, 0, 4), 1);
    fraction("all five wake by 9", x, 0, 1);
    due("it answers", x.clocks(0, 0, 5), 1);
    fraction("five or fewer", x, 1, 1);
    due("it answers", x.clocks(7, 2, 0), 1);
    fraction("none", x, 1024, 3125);
    due("refused", x.clocks(8, 2, 0), -2);
    fraction("the fraction stays", x, 1024, 3125);

    says("NIGHTS. BAD.");
    endsIn("nights");
    asked(PutBack::new, 0, "nights", 999999, 59);
    asked(PutBack::new, 0, "nights", 0, 0);

    says("THE FRACTION: above (0), below (1). BAD.");
    endsIn("part");
    asked(PutBack::new, 0, "part", 0);
    asked(PutBack::new, 1, "part", 1);
    asked(Houses::busy, 7, "part", 0);
    asked(Houses::busy, 10, "part", 1);
  }

  private void images() {
    says("An IMAGE is kept: 1. BAD.");
    endsIn("image");
    PutBack x = new PutBack();
    for (int i = 0; i < 2; i++) {
      due("kept", x.image(i), 1);
      due("kept anew", x.image(i), 1);
    }
    x.waits(4);
    due("the later one", x.image(1), 1);
    due("from the first", x.from(0), 1);
    due("minute 0", x.count(2), 0);
    due("from the later one", x.from(1), 1);
    due("minute 4", x.count(2), 4);

    says("It goes on from an IMAGE: 1. BAD; NO: none was kept.");
    endsIn("from");
    refused(PutBack::new, 1, -3, "from", 0);
    refused(PutBack::new, 1, -3, "from", 1);
    refused(Houses::busy, 1, -3, "from", 1);
    due("goes on", Houses.busy().from(0), 1);
    PutBack y = Houses.busy();
    y.house();
    y.from(0);
    due("one that is kept stays so", y.from(0), 1);
  }

  private void status() {
    says("STATUS: BAD (0), NO (1), FULL (2). -1: another what (counts as BAD).");
    endsIn("status");
    refused(PutBack::new, 0, -1, "status", -1);
    refused(PutBack::new, 0, -1, "status", 3);
    PutBack x = Houses.busy();
    int[] want = {3, 2, 1};
    for (int k = 0; k < 3; k++) {
      due("status " + k, x.status(k), want[k]);
    }
    x.far(3, 4);
    x.way(3, 4, 0, 0);
    x.softest(3, 4);
    x.schedule(3, 4);
    x.took(1);
    x.stair(3, 4, 0);
    for (int k = 0; k < 3; k++) {
      due("none is not refused: status " + k, x.status(k), want[k]);
    }
  }

  private void count() {
    says("How many: 0 SLEEPERS, 1 THINGS, 2 the MINUTE, 3 who are AWAKE, 4 HEARD, 5 that may be undone, 6 bytes of THE"
        + " TEXT. BAD.");
    endsIn("count");
    PutBack x = Houses.told("house;stair 0 1 9;" + "thing 0;".repeat(5) + "sleeper 0 1 0;".repeat(5));
    for (int i = 0; i < 8; i++) {
      x.step(0, i % 2 == 0 ? 1 : 0);
      x.heard(0, 0, 0);
    }
    x.waits(59);
    for (int i = x.count(6); i < 150; i++) {
      x.type(32);
    }
    int[] most = {5, 5, 59, 5, 6, 8, 150};
    for (int what = 0; what < 7; what++) {
      due("the most of " + what, x.count(what), most[what]);
      due("the least of " + what, new PutBack().count(what), 0);
    }
  }

  private void digest() {
    says("h = 1103; then h = 31 h + v for each v: count(0) to count(6); CREAKS of STAIRS of ROOMS a below b (by a, then b;"
        + " -1: none); of SLEEPERS KIND, ROOM, EARS, AWAKE (1, 0); where PUPILS are; of THINGS HOME, how many OWNERS, these;"
        + " of HEARD SLEEPER, m, is; THE FRACTION.");
    long h = folded(1103, new int[7]);
    for (int i = 0; i < 28; i++) {
      h = folded(h, -1);
    }
    due("of a new one", new PutBack().digest(), folded(h, 0, 0, 0, 0, 1));
    PutBack x = new PutBack();
    h = folded(1103, 5, 5, 6, 3, 6, 3, 2);
    for (int a = 0; a < 8; a++) {
      for (int b = a + 1; b < 8; b++) {
        x.stair(b, a, (3 * a + b) % 10);
        h = folded(h, (3 * a + b) % 10);
      }
    }
    int[][] sleepers = {{5, 7, 9, 1}, {0, 7, 0, 1}, {1, 2, 9, 1}, {0, 3, 9, 0}, {0, 4, 4, 0}};
    for (int[] s : sleepers) {
      x.sleeper(s[0], s[1], s[2]);
      h = folded(h, s);
    }
    h = folded(h, 1, 0, 7);
    for (int t = 0; t < 5; t++) {
      x.thing(7 - t);
      h = folded(h, 7 - t, t);
      for (int o = 0; o < t; o++) {
        x.owner(t, (o + 1) % 3);
        h = folded(h, (o + 1) % 3);
      }
    }
    for (int i = 0; i < 6; i++) {
      x.heard(i % 5, i == 5 ? 12 : 2 * i, i % 2);
      h = folded(h, i % 5, i == 5 ? 12 : 2 * i, i % 2);
    }
    x.type(0);
    x.type(127);
    due("by 7 in room 7, minute 0", x.step(2, 7), 7);
    x.waits(4);
    due("by 1 in room 1", x.step(0, 1), 0);
    x.clocks(0, 3, 4);
    due("all there is room for, far above what a long holds", x.digest(), folded(h, 7, 10));
    asked(PutBack::new, new PutBack().digest(), "digest");
    asked(Houses::busy, Houses.busy().digest(), "digest");
  }

  private static long folded(long start, int... values) {
    long h = start;
    for (int v : values) {
      h = 31 * h + v;
    }
    return h;
  }
}
