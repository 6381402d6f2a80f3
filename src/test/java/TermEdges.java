/** The terms, up to what a step does: rooms, stairs, sleepers and their kinds, pupils, things. */
final class TermEdges extends Edges {
  TermEdges(Ledger ledger) {
    super(ledger);
  }

  void run() {
    calls();
    rooms();
    stairs();
    creaks();
    sleepers();
    minutes();
    far();
    noise();
    plainAndLight();
    old();
    dog();
    owl();
    snorer();
    wakesAboveNone();
    pupils();
    things();
    step();
  }

  private void calls() {
    says("An object is used for at most 512 calls after it has been made; what later calls answer is free.");
    PutBack x = new PutBack();
    for (int i = 0; i < 510; i++) {
      x.status(3);
    }
    due("the 511th call", x.status(-1), -1);
    due("the 512th call", x.status(0), 511);
    PutBack y = new PutBack();
    for (int i = 0; i < 511; i++) {
      y.waits(1);
    }
    due("the 512th call", y.undo(), 59);
  }

  private void rooms() {
    says("ROOMS 0 ..");
    endsOf("room");
    PutBack x = new PutBack();
    for (int room = 0; room < 8; room++) {
      due("each room is one", x.far(room, room), 0);
    }
    says("7 (0 is the door).");
    due("a room", x.far(7, 7), 0);
    due("none", x.far(8, 8), -2);
    for (int p = 0; p < 3; p++) {
      due("a pupil begins at the door", x.where(p), 0);
    }
    due("so does a way", x.may(0), 1);
  }

  private void stairs() {
    says("STAIRS between two unlike ROOMS, either way:");
    for (int room = 0; room < 8; room++) {
      refused(Houses::busy, 0, -10, "stair", room, room, 0);
    }
    PutBack x = new PutBack();
    for (int a = 0; a < 8; a++) {
      for (int b = a + 1; b < 8; b++) {
        due("a new one", x.stair(b, a, (a + b) % 10), -1);
        due("either way", x.stair(a, b, 0), (a + b) % 10);
        due("far, the one way", x.far(a, b), 1);
        due("far, the other way", x.far(b, a), 1);
      }
    }
    due("there", x.step(0, 7), 0);
    due("and back", x.step(0, 0), 0);
  }

  private void creaks() {
    says("CREAK 0 .. 9 (none at first; the last one told counts).");
    endsOf("creak");
    PutBack x = new PutBack();
    for (int a = 0; a < 8; a++) {
      for (int b = 0; b < 8; b++) {
        due("none at first", x.step(0, b), -3);
        due("none at first", x.far(a, b), a == b ? 0 : -1);
      }
    }
    due("the first", x.stair(2, 5, 0), -1);
    due("0 is one", x.stair(2, 5, 9), 0);
    due("9 is one", x.stair(5, 2, 4), 9);
    x.stair(0, 2, 9);
    x.stair(0, 2, 1);
    x.sleeper(0, 2, 0);
    due("the last one told is the noise", x.step(0, 2), 0);
    due("and the softest", x.softest(0, 5), 4);
    x.stair(2, 0, 2);
    x.step(0, 0);
    due("the last one told is the noise", x.step(0, 2), 1);
  }

  private void sleepers() {
    says("SLEEPERS 0 .. 4, as they come: a KIND, a ROOM, EARS (0 .. 9).");
    endsOf("sleeper");
    endsOf("kind");
    endsOf("ears");
    refused(PutBack::new, 0, -2, "of", 0, 0);
    refused(PutBack::new, 0, -2, "heard", 0, 0, 0);
    ends(TermEdges::fiveSleepers, "of", 0, 0, 4);
    ends(TermEdges::fiveSleepers, "heard", 0, 0, 4);
    PutBack x = fiveSleepers();
    for (int s = 0; s < 5; s++) {
      due("kind of " + s, x.of(s, 0), s + 1);
      due("room of " + s, x.of(s, 1), 7 - s);
      due("ears of " + s, x.of(s, 2), s == 4 ? 9 : s);
    }
  }

  static PutBack fiveSleepers() {
    PutBack x = new PutBack();
    for (int s = 0; s < 5; s++) {
      x.sleeper(s + 1, 7 - s, s == 4 ? 9 : s);
    }
    return x;
  }

  private void minutes() {
    says("MINUTES 0 .. 59 of the night.");
    endsOf("minute");
    PutBack x = new PutBack();
    due("the first", x.count(2), 0);
    due("the last", x.waits(59), 59);
    due("no further", x.waits(1), 59);
  }

  private void far() {
    says("FAR from one ROOM to another: the fewest STAIRS between (none: they are not joined).");
    PutBack x = Houses.row(9);
    for (int a = 0; a < 8; a++) {
      for (int b = 0; b < 8; b++) {
        due("in a row, from " + a + " to " + b, x.far(a, b), Math.abs(a - b));
      }
    }
    x.stair(0, 7, 9);
    for (int a = 0; a < 8; a++) {
      for (int b = 0; b < 8; b++) {
        int around = Math.abs(a - b);
        due("in a ring, from " + a + " to " + b, x.far(a, b), Math.min(around, 8 - around));
      }
    }
    asked(PutBack::new, -1, "far", 0, 7);
    asked(PutBack::new, 0, "far", 7, 7);
    asked(() -> Houses.told("house;stair 0 1 0;stair 2 3 0;"), -1, "far", 1, 2);
  }

  private void noise() {
    says("A NOISE of n in a ROOM is heard by a SLEEPER as n less twice how FAR (0 at least; 0, if not joined).");
    for (int away = 0; away < 8; away++) {
      PutBack x = Houses.row(9);
      x.sleeper(0, 7, 3);
      due("plain, " + away + " away", Houses.leastNoise(x, 7 - away, 1), 5 + 2 * away);
      due("0 at least", x.wakes(0, 7 - away, 1), 0);
      PutBack y = Houses.row(9);
      y.sleeper(1, 0, 0);
      due("from 1 on, " + away + " away", Houses.leastNoise(y, away, 1), 1 + 2 * away);
    }
    PutBack apart = new PutBack();
    for (int kind = 0; kind < 5; kind++) {
      apart.sleeper(kind, 1, 0);
    }
    due("not joined", apart.wakes(30, 0, 0), 0);
    apart.stair(0, 1, 0);
    due("joined", apart.wakes(30, 0, 0), 31);
  }

  /** From which noise in its own room a sleeper wakes. */
  private void from(int kind, int ears, int minute, int want) {
    PutBack x = new PutBack();
    x.sleeper(kind, 4, ears);
    due("kind " + kind + ", ears " + ears + ", minute " + minute, Houses.leastNoise(x, 4, minute), want);
  }

  private void plainAndLight() {
    says("KINDS of SLEEPERS, each under the one told, say from which NOISE heard on one WAKES in a MINUTE:");
    refused(PutBack::new, 0, -2, "sleeper", -1, 0, 0);
    refused(PutBack::new, 0, -2, "sleeper", 6, 0, 0);
    int[] ownRoom = {5, 2, 8, 1, 2, 16};
    for (int kind = 0; kind < 6; kind++) {
      from(kind, 3, 29, ownRoom[kind]);
    }
    says("0 PLAIN: EARS and 2.");
    for (int ears = 0; ears < 10; ears++) {
      from(0, ears, 0, ears + 2);
      from(0, ears, 59, ears + 2);
    }
    says("1 LIGHT (under PLAIN): half (cut) of PLAIN.");
    int[] light = {1, 1, 2, 2, 3, 3, 4, 4, 5, 5};
    for (int ears = 0; ears < 10; ears++) {
      from(1, ears, 0, light[ears]);
      from(1, ears, 59, light[ears]);
    }
  }

  private void old() {
    says("2 OLD (under PLAIN): PLAIN and 3; half (cut) of PLAIN in MINUTES whose number by 10 left over is 0.");
    for (int minute = 0; minute < 60; minute++) {
      boolean tenth = minute == 0 || minute == 10 || minute == 20 || minute == 30 || minute == 40 || minute == 50;
      from(2, 0, minute, tenth ? 1 : 5);
      from(2, 1, minute, tenth ? 1 : 6);
      from(2, 9, minute, tenth ? 5 : 14);
    }
  }

  private void dog() {
    says("3 DOG (under LIGHT): as LIGHT, but 1, if the NOISE is made in its own ROOM.");
    for (int ears = 0; ears < 10; ears++) {
      from(3, ears, 0, 1);
      from(3, ears, 59, 1);
    }
    PutBack x = Houses.told("house;stair 3 4 0;sleeper 3 4 9;");
    due("from the next room: half of 11 and 2", Houses.leastNoise(x, 3, 0), 7);
    PutBack y = Houses.told("house;stair 3 4 0;sleeper 3 4 0;");
    due("from the next room: half of 2 and 2", Houses.leastNoise(y, 3, 59), 3);
    due("no noise in its own room", y.wakes(0, 4, 0), 0);
  }

  private void owl() {
    says("4 OWL (under LIGHT): as LIGHT in the first 30 MINUTES, twice that behind.");
    for (int minute = 0; minute < 60; minute++) {
      from(4, 0, minute, minute < 30 ? 1 : 2);
      from(4, 9, minute, minute < 30 ? 5 : 10);
    }
    from(4, 3, 29, 2);
    from(4, 3, 30, 4);
  }

  private void snorer() {
    says("5 SNORER (under OLD): as OLD, twice that in MINUTES of an odd number.");
    for (int minute = 0; minute < 60; minute++) {
      boolean tenth = minute == 0 || minute == 10 || minute == 20 || minute == 30 || minute == 40 || minute == 50;
      boolean odd = (minute & 1) == 1;
      from(5, 0, minute, tenth ? 1 : odd ? 10 : 5);
      from(5, 9, minute, tenth ? 5 : odd ? 28 : 14);
    }
  }

  private void wakesAboveNone() {
    says("(WAKES, if what is heard is that or more, and above 0.)");
    for (int kind = 0; kind < 6; kind++) {
      PutBack x = new PutBack();
      x.stair(0, 1, 0);
      x.sleeper(kind, 1, 0);
      for (int minute = 0; minute < 60; minute++) {
        due("kind " + kind + ", no noise", x.wakes(0, 1, minute), 0);
      }
      due("kind " + kind + ", a stair that does not creak", x.step(0, 1), 0);
      due("nobody is awake", x.count(3), 0);
    }
    PutBack y = Houses.told("house;stair 0 1 2;sleeper 1 0 0;");
    due("2 from the next room is heard as 0", y.wakes(2, 1, 0), 0);
    due("3 is heard as 1", y.wakes(3, 1, 0), 1);
    due("as much as that", y.wakes(1, 0, 0), 1);
  }

  private void pupils() {
    says("PUPILS 0 .. 2: each is in a ROOM (0 at first).");
    endsOf("pupil");
    PutBack x = Houses.told("house;stair 0 1 0;stair 0 2 0;stair 0 7 0;");
    for (int p = 0; p < 3; p++) {
      due("at first", x.where(p), 0);
    }
    x.step(0, 7);
    x.step(2, 2);
    int[] at = {7, 0, 2};
    for (int p = 0; p < 3; p++) {
      due("each by itself", x.where(p), at[p]);
    }
  }

  static PutBack fiveThings() {
    PutBack x = new PutBack();
    for (int t = 0; t < 5; t++) {
      x.thing(7 - t);
    }
    return x;
  }

  private void things() {
    says("THINGS 0 .. 4, as they come: HOME (a ROOM), OWNERS: a row of 0 to 4 PUPILS who took it, one from the other"
        + " (in order).");
    endsOf("thing");
    refused(PutBack::new, 0, -2, "took", 0);
    refused(PutBack::new, 0, -2, "owner", 0, 0);
    ends(TermEdges::fiveThings, "took", 0, 0, 4);
    ends(TermEdges::fiveThings, "owner", 0, 0, 4);
    PutBack x = fiveThings();
    due("a row of none", x.took(4), -1);
    int[] row = {2, 0, 2, 1};
    for (int i = 0; i < 4; i++) {
      due("one more", x.owner(4, row[i]), i + 1);
      due("the last of them", x.took(4), row[i]);
    }
    due("a fifth", x.owner(4, 0), -4);
    due("the other rows stay empty", x.took(3), -1);
    // The home is seen by where it can come: rooms 3 to 7 are 16, 8, 4, 2, 1 of the things.
    due("no stairs: none can", x.canNot(), 31);
    x.stair(0, 3, 0);
    x.stair(3, 7, 0);
    due("homes in 3 and 7", x.canNot(), 14);
    due("in order", x.owed(2) + x.owed(0) + x.owed(1), 32);
  }

  private void step() {
    says("A STEP of a PUPIL by a STAIR in the MINUTE as it is: its CREAK is the NOISE in the ROOM to which one comes;"
        + " who WAKES is AWAKE from then on (bits); the MINUTE is one more (59 at most).");
    PutBack x = Houses.told("house;stair 0 1 5;sleeper 0 1 3;sleeper 0 0 1;sleeper 0 1 4;sleeper 0 0 2;");
    due("5 is heard as 5 in room 1, as 3 at the door", x.step(0, 1), 3);
    due("awake", x.count(3), 2);
    due("the minute", x.count(2), 1);
    due("5 is heard as 5 at the door, as 3 in room 1", x.step(0, 0), 10);
    due("awake from then on", x.count(3), 3);
    due("one of whom this was not heard", x.of(0, 3), 1);
    due("one who never heard", x.of(2, 3), 0);
    PutBack late = Houses.told("house;stair 0 1 4;sleeper 2 1 0;");
    late.waits(58);
    due("in minute 58", late.step(0, 1), 0);
    due("then it is 59", late.count(2), 59);
    due("in minute 59", late.step(0, 0), 0);
    due("59 at most", late.count(2), 59);
    due("in minute 59 again, not in 60", late.step(0, 1), 0);
    due("59 at most", late.count(2), 59);
    PutBack tenth = Houses.told("house;stair 0 1 4;sleeper 2 1 0;");
    tenth.waits(9);
    due("in minute 9", tenth.step(0, 1), 0);
    due("in minute 10, as it is then", tenth.step(1, 1), 1);
  }
}
