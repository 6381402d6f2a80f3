/** Each promise by hand: ordinary inputs, the edges that the document names, wrong inputs. */
public final class PromiseTest {
  private static int wrong = 0;
  private static int promise = 0;

  private static void due(String what, long got, long want) {
    if (got != want) {
      wrong++;
      System.out.println("promise " + promise + ": " + what + " answered " + got + ", due is " + want);
    }
  }

  private static PutBack told(String text) {
    PutBack x = new PutBack();
    int answer = Houses.read(x, text);
    if (answer < 0) {
      wrong++;
      System.out.println("promise " + promise + ": the text " + text + " answered " + answer);
    }
    return x;
  }

  /** What the calls refused so far, as one number: BAD, NO, FULL, three figures each. */
  private static int refused(PutBack x) {
    return x.status(0) * 1000000 + x.status(1) * 1000 + x.status(2);
  }

  private static void p1NewObject() {
    promise = 1;
    PutBack x = new PutBack();
    for (int i = 0; i < 7; i++) {
      due("count " + i, x.count(i), 0);
    }
    for (int a = 0; a < 8; a++) {
      for (int b = 0; b < 8; b++) {
        due("far", x.far(a, b), a == b ? 0 : -1);
      }
    }
    for (int p = 0; p < 3; p++) {
      due("where", x.where(p), 0);
    }
    due("above", x.part(0), 0);
    due("below", x.part(1), 1);
    due("image 0", x.from(0), -3);
    due("image 1", x.from(1), -3);
    due("undo", x.undo(), -3);
    due("refused", refused(x), 3000);
    due("the constants", PutBack.NONE * 1000 + PutBack.BAD * 100 + PutBack.NO * 10 + PutBack.FULL, -1234);
  }

  private static void p2House() {
    promise = 2;
    PutBack x = told("house;stair 0 1 0;sleeper 0 1 0;sleeper 1 2 3;thing 4 0 1;");
    x.step(0, 1);
    x.waits(3);
    x.heard(0, 1, 1);
    x.clocks(7, 5, 0);
    x.image(0);
    x.undo();
    x.step(2, 7);
    due("house", x.house(), 2);
    due("sleepers", x.count(0), 0);
    due("things", x.count(1), 0);
    due("minute", x.count(2), 0);
    due("awake", x.count(3), 0);
    due("heard", x.count(4), 0);
    due("to undo", x.count(5), 0);
    due("text stays", x.count(6), 58);
    due("pupil", x.where(0), 0);
    due("stairs", x.far(0, 1), -1);
    due("the fraction stays", x.part(1), 4);
    due("refused stays", refused(x), 1000);
    due("house again", x.house(), 0);
    due("the image stays", x.from(0), 1);
    due("sleepers of the image", x.count(0), 2);
    due("where one is in the image", x.where(0), 1);
    x.house();
    x.clear();
    x.clocks(7, 0, 5);
    PutBack fresh = new PutBack();
    fresh.clocks(7, 0, 5);
    due("but for those it is as a new one", x.digest(), fresh.digest());
  }

  private static void p3Stair() {
    promise = 3;
    PutBack x = new PutBack();
    due("a first one", x.stair(0, 7, 9), -1);
    due("the last one told counts", x.stair(7, 0, 0), 9);
    due("either way", x.stair(0, 7, 4), 0);
    int[][] bad = {{-1, 1, 0}, {8, 1, 0}, {1, -1, 0}, {1, 8, 0}, {1, 2, -1}, {1, 2, 10}, {3, 3, 0}, {Integer.MAX_VALUE, 0, 0}, {0, Integer.MIN_VALUE, 0}};
    long digest = x.digest();
    for (int[] n : bad) {
      due("bad", x.stair(n[0], n[1], n[2]), -10);
    }
    due("nothing changed", x.digest(), digest);
    due("refused", refused(x), 9000000);
    due("step", x.step(0, 7), 0);
    due("back", x.step(0, 0), 0);
  }

  private static void p4Sleeper() {
    promise = 4;
    PutBack x = new PutBack();
    due("kind -1", x.sleeper(-1, 0, 0), -2);
    due("kind 6", x.sleeper(6, 0, 0), -2);
    due("room -1", x.sleeper(0, -1, 0), -2);
    due("room 8", x.sleeper(0, 8, 0), -2);
    due("ears -1", x.sleeper(0, 0, -1), -2);
    due("ears 10", x.sleeper(0, 0, 10), -2);
    for (int s = 0; s < 5; s++) {
      due("number", x.sleeper(s + 1, s + 3, s * 2 + 1), s);
    }
    due("a sixth", x.sleeper(0, 0, 0), -4);
    due("bad ahead of full", x.sleeper(0, 0, 10), -2);
    due("refused", refused(x), 7000001);
    due("kind", x.of(4, 0), 5);
    due("room", x.of(4, 1), 7);
    due("ears", x.of(4, 2), 9);
    PutBack y = new PutBack();
    y.waits(2);
    y.sleeper(0, 9, 0);
    due("a refused one leaves what may be undone", y.count(5), 1);
    y.sleeper(0, 1, 0);
    due("one that comes does not", y.undo(), -3);
    due("the minute stays", y.count(2), 2);
  }

  private static void p5Thing() {
    promise = 5;
    PutBack x = new PutBack();
    due("home -1", x.thing(-1), -2);
    due("home 8", x.thing(8), -2);
    for (int t = 0; t < 5; t++) {
      due("number", x.thing(t == 4 ? 7 : t), t);
    }
    due("a sixth", x.thing(0), -4);
    due("bad ahead of full", x.thing(8), -2);
    due("refused", refused(x), 3000001);
    due("many", x.count(1), 5);
  }

  private static void p6Owner() {
    promise = 6;
    PutBack x = new PutBack();
    due("no thing", x.owner(0, 0), -2);
    x.thing(3);
    due("thing -1", x.owner(-1, 0), -2);
    due("thing 1", x.owner(1, 0), -2);
    due("pupil -1", x.owner(0, -1), -2);
    due("pupil 3", x.owner(0, 3), -2);
    due("first", x.owner(0, 2), 1);
    due("again", x.owner(0, 2), -2);
    due("second", x.owner(0, 0), 2);
    due("third", x.owner(0, 2), 3);
    due("fourth", x.owner(0, 1), 4);
    due("fifth", x.owner(0, 0), -4);
    due("bad ahead of full", x.owner(0, 1), -2);
    due("refused", refused(x), 7000001);
    due("took", x.took(0), 1);
    x.house();
    x.thing(1);
    due("a new thing has no owners", x.took(0), -1);
    due("its first", x.owner(0, 1), 1);
  }

  private static void p7Type() {
    promise = 7;
    PutBack x = new PutBack();
    due("-1", x.type(-1), -2);
    due("128", x.type(128), -2);
    due("0", x.type(0), 1);
    due("127", x.type(127), 2);
    for (int i = 2; i < 150; i++) {
      due("more", x.type(32), i + 1);
    }
    due("the 151st", x.type(32), -4);
    due("bad ahead of full", x.type(-1), -2);
    due("refused", refused(x), 3000001);
    due("many", x.count(6), 150);
  }

  private static void p8Clear() {
    promise = 8;
    PutBack x = new PutBack();
    due("empty", x.clear(), 0);
    x.type(104);
    x.type(105);
    due("two", x.clear(), 2);
    due("then none", x.clear(), 0);
    due("many", x.count(6), 0);
    due("nothing is left of it", Houses.read(x, "house;"), 1);
  }

  private static void p9Read() {
    promise = 9;
    String five = "sleeper 0 0 0;sleeper 0 0 0;sleeper 0 0 0;sleeper 0 0 0;sleeper 0 0 0;";
    String things = "thing 0;thing 0;thing 0;thing 0;thing 0;";
    Object[][] rows = {
      {"house;", 1}, {"  house  ;  ", 1}, {"", -10}, {" ", -11}, {"   ", -13}, {"house", -15}, {"house ", -16},
      {"hous", -10}, {"House;", -10}, {";", -10}, {"5", -10}, {"house;house;", -16}, {"house;5", -16}, {"house;;", -16},
      {"stair 0 1 2;house;", -10}, {"houses;", -10}, {"houseX", -15}, {"house5", -15}, {"house;x;", -16}, {"mouse;", -10}, {"house;xtair 0 1 2;", -16}, {"house;stait 0 1 2;", -16}, {"house;stairs 0 1 2;", -16},
      {"house;stair 0 1 2;", 2}, {"house;stair 00 01 02;", 2}, {"house;stair0 1 2;", 2}, {"house;stair 0  7  9 ; ", 2},
      {"house;stair 0 1 2", -27}, {"house;stair 0 1", -25}, {"house;stair", -21}, {"house;stair ;", -22}, {"house;stair 0;", -23},
      {"house;stair 0 1;", -25}, {"house;stair 8 1 2;", -22}, {"house;stair 0 8 2;", -24}, {"house;stair 1 1 2;", -24}, {"house;stair 1 01 2;", -24},
      {"house;stair 0 1 10;", -26}, {"house;stair 0 1 009;", -26}, {"house;stair 0 1 2 3;", -28}, {"house;stair 0 1 x;", -26}, {"house;stair 0 1 -;", -26},
      {"house;stair 012;", -22}, {"house;stair 0\t1 2;", -23}, {"house;stair 0 1 2;house;", -28},
      {"house;sleeper 5 7 9;", 2}, {"house;sleeper 6 7 9;", -24}, {"house;sleeper 5 8 9;", -26}, {"house;sleeper 5 7 10;", -28}, {"house;sleeper 5 7;", -27},
      {"house;" + five, 6}, {"house;" + five + "sleeper", -10 - 6 - 70}, {"house;" + five + "thing 0;", 7},
      {"house;thing 7;", 2}, {"house;thing 8;", -22}, {"house;thing;", -21}, {"house;thing 7", -23}, {"house;thing 7 0 1 2 0;", 2}, {"house;thing 7 0 1 2 0 ;", 2},
      {"house;thing 7 0 1 2 0 1;", -32}, {"house;thing 7 0 1 2 0 x;", -32}, {"house;thing 7 0 0;", -26}, {"house;thing 7 0 1 01;", -28}, {"house;thing 7 3;", -24}, {"house;thing 7 0", -25},
      {"house;thing 007;", -22}, {"house;thing 07 00;", 2}, {"house;" + things, 6}, {"house;" + things + "thing x", -10 - 6 - 40},
    };
    for (Object[] row : rows) {
      PutBack x = new PutBack();
      x.stair(6, 7, 1);
      x.thing(2);
      due("'" + row[0] + "'", Houses.read(x, (String) row[0]), (Integer) row[1]);
      boolean was = x.far(6, 7) == 1 && x.count(1) == 1;
      due("all stays just by a fault in '" + row[0] + "'", was ? 1 : 0, (Integer) row[1] < 0 ? 1 : 0);
      due("no refusal", refused(x), 0);
    }
    p9Replaced();
  }

  private static void p9Replaced() {
    PutBack x = told("house;stair 0 1 9;sleeper 0 1 0;thing 2 0 1;");
    x.step(0, 1);
    x.heard(0, 0, 1);
    x.image(1);
    x.clocks(3, 3, 0);
    long below = x.part(1);
    due("items", Houses.read(x, "house;stair 1 2 3;stair 2 1 4;sleeper 3 4 5;thing 6 2 1;thing 7;"), 6);
    due("sleepers", x.count(0), 1);
    due("things", x.count(1), 2);
    due("minute", x.count(2), 0);
    due("awake", x.count(3), 0);
    due("heard", x.count(4), 0);
    due("to undo", x.count(5), 0);
    due("the text stays", x.count(6), 64);
    due("at the door", x.where(0), 0);
    due("no old stair", x.far(0, 1), -1);
    due("the last one told", x.stair(1, 2, 0), 4);
    due("kind", x.of(0, 0), 3);
    due("room", x.of(0, 1), 4);
    due("ears", x.of(0, 2), 5);
    due("owed", x.owed(2), 1);
    due("took", x.took(0), 1);
    due("took none", x.took(1), -1);
    due("the fraction stays", x.part(1), below);
    due("it can be read again", x.read(), 6);
    due("images stay", x.from(1), 1);
    due("its awake", x.count(3), 1);
  }

  private static void p10Step() {
    promise = 10;
    PutBack x = told("house;stair 0 1 5;stair 1 2 9;sleeper 0 1 3;sleeper 0 2 1;sleeper 1 5 0;");
    due("pupil -1", x.step(-1, 1), -2);
    due("pupil 3", x.step(3, 1), -2);
    due("room -1", x.step(0, -1), -2);
    due("room 8", x.step(0, 8), -2);
    due("no stair", x.step(0, 2), -3);
    due("the same room", x.step(0, 0), -3);
    due("refused", refused(x), 4002000);
    due("nothing changed", x.count(2) + x.count(5), 0);
    due("noise 5 in room 1: one hears 5, one 3", x.step(0, 1), 3);
    due("both are awake", x.count(3), 2);
    due("minute", x.count(2), 1);
    due("where", x.where(0), 1);
    due("the other one stays", x.where(1), 0);
    due("who is awake may wake again", x.step(0, 2), 3);
    x.waits(59);
    due("in the last minute", x.step(1, 1), 3);
    due("the last minute stays", x.count(2), 59);
    PutBack y = told("house;stair 0 1 4;sleeper 5 1 0;");
    y.waits(1);
    due("a snorer in an odd minute", y.step(0, 1), 0);
    y.waits(8);
    due("by ten 0 left over", y.step(1, 1), 1);
  }

  private static void p11Waits() {
    promise = 11;
    PutBack x = new PutBack();
    due("0", x.waits(0), -2);
    due("60", x.waits(60), -2);
    due("-1", x.waits(-1), -2);
    due("1", x.waits(1), 1);
    due("57", x.waits(57), 58);
    due("together one", x.count(5), 2);
    due("59 at most", x.waits(59), 59);
    due("there too", x.waits(1), 59);
    due("undone", x.undo(), 59);
    due("undone", x.undo(), 58);
    due("undone", x.undo(), 1);
    due("refused", refused(x), 3000000);
  }

  private static void p12Undo() {
    promise = 12;
    PutBack x = told("house;stair 0 1 9;sleeper 0 1 0;");
    x.step(0, 1);
    x.step(2, 1);
    x.waits(5);
    x.stair(1, 2, 3);
    x.thing(4);
    x.heard(0, 0, 1);
    due("waiting", x.undo(), 2);
    due("a step", x.undo(), 1);
    due("the third is back", x.where(2), 0);
    due("the first is not", x.where(0), 1);
    due("it is awake", x.of(0, 3), 1);
    due("the first step", x.undo(), 0);
    due("where", x.where(0), 0);
    due("asleep", x.of(0, 3), 0);
    due("stairs stay", x.far(1, 2), 1);
    due("things stay", x.count(1), 1);
    due("heard stays", x.count(4), 1);
    due("none", x.undo(), -3);
    for (int i = 0; i < 12; i++) {
      x.waits(1);
    }
    due("8 at most", x.count(5), 8);
    for (int i = 11; i >= 4; i--) {
      due("back", x.undo(), i);
    }
    due("none", x.undo(), -3);
    due("refused", refused(x), 2000);
    PutBack y = told("house;stair 0 1 2;sleeper 0 1 0;");
    for (int i = 0; i < 9; i++) {
      y.step(i % 3, (i / 3 + 1) % 2);
    }
    for (int i = 8; i >= 1; i--) {
      due("back", y.undo(), i);
      for (int p = 0; p < 3; p++) {
        due("where " + p, y.where(p), (i + 2 - p) / 3 % 2);
      }
    }
    due("awake by the one step that is left", y.of(0, 3), 1);
    due("none", y.undo(), -3);
  }

  private static void p13Of() {
    promise = 13;
    PutBack x = told("house;stair 0 1 9;sleeper 2 1 0;sleeper 4 6 8;");
    x.step(0, 1);
    int[] want = {2, 1, 0, 1, 4, 6, 8, 0};
    for (int i = 0; i < 8; i++) {
      due("of", x.of(i / 4, i % 4), want[i]);
    }
    due("sleeper -1", x.of(-1, 0), -2);
    due("sleeper 2", x.of(2, 0), -2);
    due("what -1", x.of(0, -1), -2);
    due("what 4", x.of(0, 4), -2);
    due("refused", refused(x), 4000000);
  }

  private static void p14Where() {
    promise = 14;
    PutBack x = told("house;stair 0 1 0;stair 0 2 0;");
    x.step(1, 1);
    x.step(2, 2);
    for (int p = 0; p < 3; p++) {
      due("where", x.where(p), p);
    }
    due("-1", x.where(-1), -2);
    due("3", x.where(3), -2);
    due("refused", refused(x), 2000000);
  }

  private static void p15Far() {
    promise = 15;
    PutBack x = told("house;stair 0 1 9;stair 1 2 9;stair 2 3 9;stair 3 4 9;stair 4 5 9;stair 5 6 9;");
    for (int a = 0; a < 8; a++) {
      for (int b = 0; b < 8; b++) {
        due("in a row", x.far(a, b), a == b ? 0 : a == 7 || b == 7 ? -1 : Math.abs(a - b));
      }
    }
    x.stair(6, 0, 0);
    due("around", x.far(0, 5), 2);
    due("around", x.far(5, 0), 2);
    due("-1", x.far(-1, 0), -2);
    due("8", x.far(0, 8), -2);
    due("refused", refused(x), 2000000);
  }

  private static void p16Wakes() {
    promise = 16;
    // The least noise in its own room, then from the next one, by kind, ears 5: minutes 0, 1, 29, 30, 31.
    int[][] own = {{7, 7, 7, 7, 7}, {3, 3, 3, 3, 3}, {3, 10, 10, 3, 10}, {1, 1, 1, 1, 1}, {3, 3, 3, 6, 6}, {3, 20, 20, 3, 20}};
    int[] minutes = {0, 1, 29, 30, 31};
    for (int kind = 0; kind < 6; kind++) {
      for (int i = 0; i < 5; i++) {
        PutBack x = new PutBack();
        x.stair(1, 2, 0);
        x.sleeper(kind, 2, 5);
        int least = own[kind][i];
        int next = (kind == 3 ? 3 : least) + 2;
        due("kind " + kind + ", at " + minutes[i], x.wakes(least, 2, minutes[i]), 1);
        due("kind " + kind + ", below, at " + minutes[i], x.wakes(least - 1, 2, minutes[i]), 0);
        due("kind " + kind + ", from the next, at " + minutes[i], x.wakes(next, 1, minutes[i]), 1);
        due("kind " + kind + ", from the next, below, at " + minutes[i], x.wakes(next - 1, 1, minutes[i]), 0);
        due("not joined", x.wakes(30, 7, minutes[i]), 0);
      }
    }
    PutBack x = told("house;sleeper 1 0 0;sleeper 0 0 9;sleeper 1 0 1;");
    due("no noise wakes nobody", x.wakes(0, 0, 0), 0);
    due("bits", x.wakes(1, 0, 0), 5);
    due("all", x.wakes(30, 0, 59), 7);
    due("nobody woke", x.count(3), 0);
    int[][] bad = {{-1, 0, 0}, {31, 0, 0}, {0, -1, 0}, {0, 8, 0}, {0, 0, -1}, {0, 0, 60}};
    for (int[] n : bad) {
      due("bad", x.wakes(n[0], n[1], n[2]), -2);
    }
    due("refused", refused(x), 6000000);
  }

  private static void p17Loud() {
    promise = 17;
    PutBack x = told("house;stair 0 1 0;stair 1 2 0;sleeper 0 1 9;sleeper 5 2 9;");
    due("plain, its own room", x.loud(1, 1), 10);
    due("plain, from the door", x.loud(0, 1), 12);
    due("the snorer in an even minute", x.loud(2, 2), 12);
    due("the snorer at 10", x.loud(2, 10), 4);
    due("not joined", x.loud(7, 0), 30);
    due("room -1", x.loud(-1, 0), -2);
    due("room 8", x.loud(8, 0), -2);
    due("minute -1", x.loud(0, -1), -2);
    due("minute 60", x.loud(0, 60), -2);
    due("refused", refused(x), 4000000);
  }

  private static void p18Way() {
    promise = 18;
    // One old sleeper behind the door: noise 4 wakes it in each tenth minute alone.
    PutBack x = told("house;stair 0 1 4;stair 0 2 0;stair 2 1 0;stair 1 3 4;sleeper 2 1 0;");
    due("by the longer one in minute 0", x.way(0, 1, 0, 0), 2);
    due("waiting first is as good, and less", x.way(0, 1, 0, 1), 0);
    due("at once in minute 1", x.way(0, 1, 1, 0), 1);
    due("its room", x.way(0, 1, 1, 1), 1);
    due("there", x.way(3, 3, 59, 0), 0);
    due("there, the room", x.way(3, 3, 59, 1), 3);
    due("late", x.way(0, 3, 57, 0), 2);
    due("late, first", x.way(0, 3, 57, 1), 1);
    due("too late", x.way(0, 3, 58, 0), -1);
    due("too late, first", x.way(0, 3, 58, 1), -1);
    due("not joined", x.way(0, 7, 0, 0), -1);
    PutBack y = told("house;stair 0 5 0;stair 0 4 0;stair 5 1 0;stair 4 1 0;");
    due("the least of two", y.way(0, 1, 0, 1), 4);
    PutBack z = told("house;stair 0 1 9;stair 1 2 6;sleeper 4 1 9;");
    due("the owl hears it early: waiting till 30", z.way(2, 1, 3, 0), 28);
    due("waiting", z.way(2, 1, 3, 1), 2);
    due("the same by the louder one: from twice five", z.way(0, 1, 31, 0), 1);
    PutBack tenth = told("house;stair 0 1 4;stair 1 2 4;sleeper 2 1 0;");
    due("a step, waiting in minute 10, a step", tenth.way(0, 2, 9, 0), 3);
    due("not waiting first", tenth.way(0, 2, 9, 1), 1);
    due("from minute 10 on waiting first", tenth.way(0, 2, 10, 1), 0);
    int[][] bad = {{-1, 0, 0, 0}, {8, 0, 0, 0}, {0, -1, 0, 0}, {0, 8, 0, 0}, {0, 0, -1, 0}, {0, 0, 60, 0}, {0, 0, 0, -1}, {0, 0, 0, 2}};
    for (int[] n : bad) {
      due("bad", z.way(n[0], n[1], n[2], n[3]), -2);
    }
    due("refused", refused(z), 8000000);
  }

  private static void p19Softest() {
    promise = 19;
    PutBack x = told("house;stair 0 1 9;stair 0 2 3;stair 2 3 4;stair 3 1 2;stair 5 6 0;sleeper 1 1 0;");
    due("around", x.softest(0, 1), 4);
    due("back", x.softest(1, 0), 4);
    due("the same", x.softest(1, 1), 0);
    due("silent", x.softest(5, 6), 0);
    due("none", x.softest(0, 5), -1);
    x.stair(4, 7, 9);
    due("the worst", x.softest(4, 7), 9);
    due("-1", x.softest(-1, 0), -2);
    due("8", x.softest(0, 8), -2);
    due("refused", refused(x), 2000000);
  }

  private static void p20Schedule() {
    promise = 20;
    PutBack x = told("house;stair 0 1 0;stair 1 2 0;stair 2 3 0;");
    due("both at the door", x.schedule(0, 0), 0);
    due("one goes", x.schedule(3, 0), 3);
    due("one behind the other", x.schedule(3, 2), 3);
    due("either way", x.schedule(2, 3), 3);
    due("one room", x.schedule(2, 2), -1);
    due("not joined", x.schedule(7, 0), -1);
    PutBack star = told("house;stair 0 1 0;stair 1 2 0;stair 1 3 0;");
    due("by one stair, one behind the other", star.schedule(2, 3), 3);
    PutBack hub = told("house;stair 0 1 0;stair 0 2 0;stair 1 3 0;stair 2 3 0;stair 3 4 0;stair 3 5 0;");
    due("by two stairs into one room, one waits", hub.schedule(4, 5), 4);
    due("to rooms of their own at once", hub.schedule(1, 2), 1);
    PutBack y = told("house;stair 0 1 9;stair 1 2 0;sleeper 2 1 5;");
    due("9 wakes it in minute 0, not in 1 and 2", y.schedule(1, 2), 3);
    PutBack z = told("house;stair 0 1 5;sleeper 5 1 0;");
    due("quiet in an odd minute alone", z.schedule(1, 0), 2);
    PutBack row = told("house;stair 0 1 5;stair 1 2 5;stair 2 3 5;sleeper 5 1 0;sleeper 5 2 0;sleeper 5 3 0;");
    due("odd minutes: 1, 3, 5", row.schedule(2, 3), 6);
    row.waits(9);
    due("from minute 0, not from now", row.schedule(2, 3), 6);
    PutBack late = told("house;stair 0 1 2;sleeper 4 1 1;");
    due("never quiet", late.schedule(1, 0), -1);
    PutBack owl = told("house;stair 0 1 2;sleeper 4 1 2;");
    due("the owl sleeps behind minute 29: too late", owl.schedule(1, 0), -1);
    due("for one it is not", owl.way(0, 1, 0, 0), 31);
    int[][] bad = {{-1, 0}, {8, 0}, {0, -1}, {0, 8}};
    for (int[] n : bad) {
      due("bad", late.schedule(n[0], n[1]), -2);
    }
    due("refused", refused(late), 4000000);
  }

  private static void p21Owed() {
    promise = 21;
    PutBack x = told("house;thing 0 0 1;thing 1;thing 2 2;thing 3 1 0 1 0;thing 4 1 2 0;");
    due("0", x.owed(0), 1 + 8);
    due("1", x.owed(1), 8 + 16);
    due("2", x.owed(2), 16);
    due("-1", x.owed(-1), -2);
    due("3", x.owed(3), -2);
    due("refused", refused(x), 2000000);
  }

  private static void p22Took() {
    promise = 22;
    PutBack x = told("house;thing 0 0 1;thing 1;thing 2 2;thing 3 1 0 1 0;");
    int[] want = {1, -1, 2, 0};
    for (int t = 0; t < 4; t++) {
      due("took", x.took(t), want[t]);
    }
    due("-1", x.took(-1), -2);
    due("4", x.took(4), -2);
    due("refused", refused(x), 2000000);
  }

  private static void p23CanNot() {
    promise = 23;
    PutBack x = told("house;stair 0 1 2;stair 1 2 3;stair 2 3 9;sleeper 4 3 4;thing 0;thing 1;thing 2;thing 3;thing 4;");
    due("room 3 is loud, room 4 not joined", x.canNot(), 24);
    x.waits(50);
    due("from minute 0, not from now", x.canNot(), 24);
    x.stair(2, 3, 5);
    due("quiet behind minute 29", x.canNot(), 16);
    x.stair(0, 4, 0);
    due("joined", x.canNot(), 0);
    due("no things", new PutBack().canNot(), 0);
  }

  private static void p24Heard() {
    promise = 24;
    PutBack x = new PutBack();
    due("no sleeper", x.heard(0, 0, 0), -2);
    x.sleeper(0, 0, 0);
    int[][] bad = {{-1, 0, 0}, {1, 0, 0}, {0, -1, 0}, {0, 13, 0}, {0, 0, -1}, {0, 0, 2}};
    for (int[] n : bad) {
      due("bad", x.heard(n[0], n[1], n[2]), -2);
    }
    for (int i = 0; i < 6; i++) {
      due("how many", x.heard(0, i * 2 + 1 == 11 ? 12 : i, i % 2), i + 1);
    }
    due("a seventh", x.heard(0, 0, 0), -4);
    due("bad ahead of full", x.heard(0, 13, 0), -2);
    due("refused", refused(x), 8000001);
  }

  private static void p25Forget() {
    promise = 25;
    PutBack x = new PutBack();
    due("none", x.forget(), 0);
    x.sleeper(0, 0, 0);
    x.heard(0, 0, 1);
    x.heard(0, 0, 1);
    due("no way fits", x.ways(), 0);
    due("two", x.forget(), 2);
    due("none", x.count(4), 0);
    due("ways again", x.ways(), 1);
  }

  private static void p26May() {
    promise = 26;
    PutBack x = told("house;stair 0 1 2;stair 1 2 9;sleeper 1 1 0;sleeper 0 2 1;");
    due("the door", x.may(0), 1);
    due("a minute on", x.may(1), 3);
    due("two", x.may(2), 7);
    x.heard(1, 1, 1);
    due("noise 3 and more in room 2: a step there in minute 1", x.may(2), 4);
    due("so in room 1 ahead", x.may(1), 2);
    due("then", x.may(12), 7);
    x.heard(0, 0, 0);
    due("but that would wake the other one", x.may(1), 0);
    due("-1", x.may(-1), -2);
    due("13", x.may(13), -2);
    due("refused", refused(x), 2000000);
  }

  private static void p27Ways() {
    promise = 27;
    PutBack x = new PutBack();
    due("waiting alone", x.ways(), 1);
    for (int a = 0; a < 8; a++) {
      for (int b = a + 1; b < 8; b++) {
        x.stair(a, b, 0);
      }
    }
    due("any row", x.ways(), 68719476736L);
    PutBack y = told("house;stair 0 1 1;sleeper 3 1 9;");
    due("two rooms", y.ways(), 4096);
    y.heard(0, 12, 1);
    due("minute 12 asks nothing", y.ways(), 4096);
    y.heard(0, 11, 1);
    due("the last step goes from 0 to 1", y.ways(), 1024);
    y.heard(0, 10, 0);
    due("not in the one ahead: in 0 by waiting, or from 1", y.ways(), 1024);
    y.heard(0, 0, 1);
    due("the first one, too", y.ways(), 512);
    y.heard(0, 1, 1);
    due("twice in a row can not be", y.ways(), 0);
  }

  private static void p28Listen() {
    promise = 28;
    PutBack x = told("house;stair 0 1 1;stair 0 2 1;stair 0 3 1;");
    due("no sleepers", x.listen(0), -1);
    x.sleeper(0, 7, 0);
    due("one who hears nothing", x.listen(0), 0);
    x.sleeper(3, 1, 9);
    x.sleeper(3, 2, 9);
    due("two dogs, each hearing its own room: the first", x.listen(0), 1);
    x.sleeper(1, 0, 0);
    due("the first step never leads to the door", x.listen(0), 1);
    due("the last one leads there from three rooms", x.listen(11), 3);
    due("-1", x.listen(-1), -2);
    due("12", x.listen(12), -2);
    x.heard(0, 3, 1);
    due("no ways", x.listen(0), -1);
    due("refused", refused(x), 2000000);
  }

  private static void fraction(PutBack x, String what, long above, long below) {
    due(what + ", above", x.part(0), above);
    due(what + ", below", x.part(1), below);
  }

  private static void p29Clocks() {
    promise = 29;
    PutBack x = told("house;stair 0 1 9;sleeper 0 1 0;sleeper 0 5 0;sleeper 0 6 0;");
    due("clocks", x.clocks(7, 5, 1), 1);
    fraction(x, "1 or fewer of 3 by halves", 1, 2);
    due("clocks", x.clocks(7, 3, 0), 1);
    fraction(x, "none of 3 by 3 of 10", 343, 1000);
    due("clocks", x.clocks(1, 3, 0), 1);
    fraction(x, "one hears the noise", 0, 1);
    due("clocks", x.clocks(0, 3, 1), 1);
    fraction(x, "one hears it from the door, the others sleep", 49, 100);
    due("nobody woke", x.count(3), 0);
    x.clocks(7, 0, 0);
    fraction(x, "never", 1, 1);
    x.clocks(7, 10, 2);
    fraction(x, "always", 0, 1);
    x.clocks(7, 10, 5);
    fraction(x, "5 or fewer", 1, 1);
    x.step(0, 1);
    x.clocks(7, 4, 2);
    fraction(x, "one is awake: not both others", 21, 25);
    int[][] bad = {{-1, 0, 0}, {8, 0, 0}, {0, -1, 0}, {0, 11, 0}, {0, 0, -1}, {0, 0, 6}};
    for (int[] n : bad) {
      due("bad", x.clocks(n[0], n[1], n[2]), -2);
    }
    fraction(x, "it stays", 21, 25);
    due("refused", refused(x), 6000000);
    PutBack y = told("house;sleeper 2 0 9;");
    y.clocks(0, 0, 0);
    fraction(y, "now is minute 0: 5 wakes", 0, 1);
    y.waits(1);
    y.clocks(0, 0, 0);
    fraction(y, "now is minute 1: 14 would", 1, 1);
  }

  private static void p30Nights() {
    promise = 30;
    // SEED 0 leads to X 12345, by 65536 cut 0; 1406932606: 21468 by 8 is 4; 654583775: 9988 by 8 is 4.
    PutBack x = told("house;stair 0 4 9;sleeper 0 4 7;sleeper 0 0 7;");
    due("no minute", x.nights(0, 0), 0);
    due("one minute: two pupils come to room 4", x.nights(0, 1), 1);
    due("nothing is changed", x.where(1) + x.count(2) + x.count(3) + x.count(5), 0);
    x.stair(0, 4, 8);
    due("too soft", x.nights(0, 59), 0);
    x.stair(0, 4, 9);
    x.step(0, 4);
    due("who is awake counts", x.nights(0, 0), 1);
    int[][] bad = {{-1, 0}, {1000000, 0}, {0, -1}, {0, 60}};
    for (int[] n : bad) {
      due("bad", x.nights(n[0], n[1]), -2);
    }
    due("refused", refused(x), 4000000);
    due("the edges", x.nights(999999, 59), 2);
    PutBack y = told("house;stair 0 4 4;sleeper 2 4 0;");
    due("heard in minute 0", y.nights(0, 1), 1);
    y.waits(1);
    due("not in minute 1", y.nights(0, 1), 0);
    due("nor up to minute 9", y.nights(0, 9), 0);
    y.waits(59);
    due("the last minute stays the last", y.nights(0, 59), 0);
  }

  private static void p31Part() {
    promise = 31;
    PutBack x = new PutBack();
    fraction(x, "at first", 0, 1);
    x.sleeper(0, 0, 9);
    x.clocks(1, 4, 0);
    fraction(x, "3 by 5", 3, 5);
    due("-1", x.part(-1), -2);
    due("2", x.part(2), -2);
    due("refused", refused(x), 2000000);
  }

  private static PutBack busy() {
    PutBack x = told("house;stair 0 1 9;stair 1 2 1;sleeper 0 1 0;sleeper 5 7 3;thing 2 0 1;thing 1;");
    x.step(0, 1);
    x.step(1, 1);
    x.step(0, 2);
    x.waits(2);
    x.heard(0, 1, 1);
    x.heard(1, 2, 0);
    return x;
  }

  private static void p32Image() {
    promise = 32;
    PutBack x = busy();
    long digest = x.digest();
    due("-1", x.image(-1), -2);
    due("2", x.image(2), -2);
    due("0", x.image(0), 1);
    due("it goes on as it was", x.digest(), digest);
    x.stair(0, 1, 3);
    x.sleeper(1, 1, 1);
    x.thing(5);
    x.owner(0, 2);
    x.forget();
    x.heard(2, 5, 0);
    x.heard(1, 7, 1);
    x.step(2, 1);
    x.waits(7);
    x.step(2, 0);
    due("1", x.image(1), 1);
    long later = x.digest();
    due("from 0", x.from(0), 1);
    due("all of it", x.digest(), digest);
    int[] back = {3, 2, 1, 0};
    int[] first = {2, 1, 1, 0};
    int[] second = {1, 1, 0, 0};
    int[] awake = {1, 1, 1, 0};
    for (int i = 0; i < 4; i++) {
      due("undone, the minute", x.undo(), back[i]);
      due("undone, the first", x.where(0), first[i]);
      due("undone, the second", x.where(1), second[i]);
      due("undone, awake", x.count(3), awake[i]);
    }
    due("from 1", x.from(1), 1);
    due("all of that", x.digest(), later);
    due("0 anew", x.image(0), 1);
    x.house();
    x.from(0);
    due("the newer one", x.digest(), later);
    due("refused", refused(x), 2000000);
  }

  private static void p33From() {
    promise = 33;
    PutBack x = busy();
    due("-1", x.from(-1), -2);
    due("2", x.from(2), -2);
    due("none kept", x.from(0), -3);
    x.image(1);
    due("not this one", x.from(0), -3);
    x.clocks(7, 3, 1);
    x.type(65);
    x.undo();
    x.undo();
    x.step(2, 1);
    due("goes on", x.from(1), 1);
    due("text stays", x.count(6), 79);
    fraction(x, "it stays", 7, 10);
    due("refused stays", refused(x), 2002000);
    due("what may be undone", x.count(5), 4);
    due("the second stays", x.where(2), 0);
    due("undone", x.undo(), 3);
    due("undone", x.undo(), 2);
    due("where", x.where(0), 1);
    due("undone", x.undo(), 1);
    due("undone", x.undo(), 0);
    due("again", x.from(1), 1);
    due("minute", x.count(2), 5);
  }

  private static void p34Status() {
    promise = 34;
    PutBack x = new PutBack();
    due("none", refused(x), 0);
    due("-1", x.status(-1), -1);
    due("3", x.status(3), -1);
    due("these count", x.status(0), 2);
    x.stair(0, 0, 0);
    x.undo();
    x.step(0, 1);
    x.from(0);
    x.type(-1);
    x.part(9);
    x.count(7);
    for (int i = 0; i < 6; i++) {
      x.thing(0);
    }
    due("bad, no, full", refused(x), 6003001);
    x.far(0, 1);
    x.softest(0, 1);
    x.way(0, 1, 0, 0);
    x.schedule(0, 1);
    x.listen(0);
    x.took(0);
    due("none is not refused", refused(x), 6003001);
    x.read();
    x.house();
    due("nor a fault; house leaves it", refused(x), 6003001);
  }

  private static void p35Count() {
    promise = 35;
    PutBack x = busy();
    int[] want = {2, 2, 5, 1, 2, 4, 78};
    for (int i = 0; i < 7; i++) {
      due("count " + i, x.count(i), want[i]);
    }
    due("-1", x.count(-1), -2);
    due("7", x.count(7), -2);
    due("refused", refused(x), 2000000);
  }

  private static void p36Digest() {
    promise = 36;
    long h = 1103;
    for (int i = 0; i < 7; i++) {
      h *= 31;
    }
    for (int i = 0; i < 28; i++) {
      h = 31 * h - 1;
    }
    h = h * 31 * 31 * 31;
    h = h * 31 * 31 + 1;
    due("of a new one", new PutBack().digest(), h);
    PutBack x = busy();
    x.clocks(7, 3, 1);
    h = 1103;
    int[] first = {2, 2, 5, 1, 2, 4, 78, 9, -1, -1, -1, -1, -1, -1, 1};
    for (int v : first) {
      h = 31 * h + v;
    }
    for (int i = 8; i < 28; i++) {
      h = 31 * h - 1;
    }
    long[] rest = {0, 1, 0, 1, 5, 7, 3, 0, 2, 1, 0, 2, 2, 0, 1, 1, 0, 0, 1, 1, 1, 2, 0, 7, 10};
    for (long v : rest) {
      h = 31 * h + v;
    }
    due("of a busy one", x.digest(), h);
    due("it changes nothing", x.digest(), h);
    due("refused", refused(x), 0);
  }

  public static void main(String[] args) {
    p1NewObject();
    p2House();
    p3Stair();
    p4Sleeper();
    p5Thing();
    p6Owner();
    p7Type();
    p8Clear();
    p9Read();
    p10Step();
    p11Waits();
    p12Undo();
    p13Of();
    p14Where();
    p15Far();
    p16Wakes();
    p17Loud();
    p18Way();
    p19Softest();
    p20Schedule();
    p21Owed();
    p22Took();
    p23CanNot();
    p24Heard();
    p25Forget();
    p26May();
    p27Ways();
    p28Listen();
    p29Clocks();
    p30Nights();
    p31Part();
    p32Image();
    p33From();
    p34Status();
    p35Count();
    p36Digest();
    System.out.println(wrong == 0 ? "all promises are kept" : wrong + " answers are not as due");
    if (wrong != 0) {
      System.exit(1);
    }
  }
}
