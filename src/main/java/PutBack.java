/** A house by night into which things are put back unseen; README.md tells how it is used. */
public final class PutBack {
  public static final int NONE = -1, BAD = -2, NO = -3, FULL = -4;

  private static final int ROOMS = 8;
  private static final int LAST_ROOM = 7;
  private static final int KINDS = 6;
  private static final int SLEEPERS = 5;
  private static final int PUPILS = 3;
  private static final int THINGS = 5;
  private static final int OWNERS = 4;
  private static final int HEARDS = 6;
  private static final int UNDOS = 8;
  private static final int IMAGES = 2;
  private static final int TEXT_BYTES = 150;
  private static final int LOUDEST_CREAK = 9;
  private static final int SHARPEST_EARS = 9;
  private static final int LOUDEST_NOISE = 30;
  private static final int LAST_MINUTE = 59;
  private static final int ROW_MINUTES = 12;
  private static final int SCHEDULE_MINUTES = 20;
  private static final int CLOCK_NOISE = 9;
  private static final int LAST_SEED = 999999;
  /** So far that no noise reaches, and no sum of two overflows: rooms that no stairs join. */
  private static final int APART = 100;
  /** A text's fault answers this less its place; a stair's refusal just this. */
  private static final int FAULT_BASE = -10;

  private final Night night;
  private final Night[] images;
  private final boolean[] kept;
  private final Reader reader;
  private final House draft;
  private final Finder finder;
  private final Rows rows;
  private final long[] chances;
  private long above;
  private long below;
  private int bads;
  private int nos;
  private int fulls;

  public PutBack() {
    night = new Night();
    images = new Night[] {new Night(), new Night()};
    kept = new boolean[IMAGES];
    reader = new Reader();
    draft = new House();
    finder = new Finder();
    rows = new Rows();
    chances = new long[SLEEPERS + 1];
    above = 0;
    below = 1;
  }

  // ---- a house

  public int house() {
    int had = night.dwelling.sleepers;
    night.dwelling.empty();
    night.begin();
    return had;
  }

  public int stair(int a, int b, int creak) {
    if (!isRoom(a) || !isRoom(b) || a == b || !within(creak, LOUDEST_CREAK)) {
      return refuseBad(FAULT_BASE);
    }
    return night.dwelling.addStair(a, b, creak);
  }

  public int sleeper(int kind, int room, int ears) {
    if (!within(kind, KINDS - 1) || !isRoom(room) || !within(ears, SHARPEST_EARS)) {
      return refuseBad(BAD);
    }
    if (night.dwelling.sleepers >= SLEEPERS) {
      return refuseFull();
    }
    night.undos = 0;
    return night.dwelling.addSleeper(kind, room, ears);
  }

  public int thing(int home) {
    if (!isRoom(home)) {
      return refuseBad(BAD);
    }
    if (night.dwelling.things >= THINGS) {
      return refuseFull();
    }
    return night.dwelling.addThing(home);
  }

  public int owner(int thing, int pupil) {
    House dwelling = night.dwelling;
    if (!isThing(thing) || !isPupil(pupil) || dwelling.lastOwner(thing) == pupil) {
      return refuseBad(BAD);
    }
    if (dwelling.ownerCounts[thing] >= OWNERS) {
      return refuseFull();
    }
    return dwelling.addOwner(thing, pupil);
  }

  public int type(int c) {
    if (!within(c, 127)) {
      return refuseBad(BAD);
    }
    if (reader.length >= TEXT_BYTES) {
      return refuseFull();
    }
    return reader.append(c);
  }

  public int clear() {
    int had = reader.length;
    reader.length = 0;
    return had;
  }

  public int read() {
    int answer = reader.readInto(draft);
    if (answer > 0) {
      night.dwelling.copyFrom(draft);
      night.begin();
    }
    return answer;
  }

  // ---- a night

  public int step(int pupil, int room) {
    if (!isPupil(pupil) || !isRoom(room)) {
      return refuseBad(BAD);
    }
    int creak = night.dwelling.creaks[pair(night.rooms[pupil], room)];
    if (creak < 0) {
      return refuseNo();
    }
    return night.go(pupil, room, creak);
  }

  public int waits(int n) {
    if (n < 1 || n > LAST_MINUTE) {
      return refuseBad(BAD);
    }
    night.remember();
    night.minute = Math.min(night.minute + n, LAST_MINUTE);
    return night.minute;
  }

  public int undo() {
    if (night.undos <= 0) {
      return refuseNo();
    }
    return night.goBack();
  }

  public int of(int sleeper, int what) {
    if (!isSleeper(sleeper)) {
      return refuseBad(BAD);
    }
    switch (what) {
      case 0:
        return night.dwelling.kindOf[sleeper];
      case 1:
        return night.dwelling.roomOf[sleeper];
      case 2:
        return night.dwelling.earsOf[sleeper];
      case 3:
        return bit(night.awake, sleeper);
      default:
        return refuseBad(BAD);
    }
  }

  public int where(int pupil) {
    return isPupil(pupil) ? night.rooms[pupil] : refuseBad(BAD);
  }

  public int far(int a, int b) {
    if (!isRoom(a) || !isRoom(b)) {
      return refuseBad(BAD);
    }
    int stairs = night.dwelling.gaps[pair(a, b)];
    return stairs >= APART ? NONE : stairs;
  }

  // ---- who hears

  public int wakes(int n, int room, int minute) {
    if (!within(n, LOUDEST_NOISE) || !isRoom(room) || !within(minute, LAST_MINUTE)) {
      return refuseBad(BAD);
    }
    return night.dwelling.wakers(n, room, minute);
  }

  public int loud(int room, int minute) {
    if (!isRoom(room) || !within(minute, LAST_MINUTE)) {
      return refuseBad(BAD);
    }
    return night.dwelling.loudest(room, minute);
  }

  public int way(int from, int to, int minute, int what) {
    if (!isRoom(from) || !isRoom(to) || !within(minute, LAST_MINUTE) || !within(what, 1)) {
      return refuseBad(BAD);
    }
    int minutes = finder.fewestMinutes(night.dwelling, from, to, minute);
    if (what == 0 || minutes == NONE) {
      return minutes;
    }
    return finder.firstRoom(night.dwelling, from, to, minute, minutes);
  }

  public int softest(int from, int to) {
    if (!isRoom(from) || !isRoom(to)) {
      return refuseBad(BAD);
    }
    return finder.leastWorstCreak(night.dwelling, from, to);
  }

  public int schedule(int u, int v) {
    if (!isRoom(u) || !isRoom(v)) {
      return refuseBad(BAD);
    }
    return finder.fewestMinutesOfTwo(night.dwelling, u, v);
  }

  // ---- whose it is

  public int owed(int pupil) {
    if (!isPupil(pupil)) {
      return refuseBad(BAD);
    }
    int bits = 0;
    for (int t = 0; t < night.dwelling.things; t++) {
      if (night.dwelling.wasTakenFrom(t, pupil)) {
        bits |= 1 << t;
      }
    }
    return bits;
  }

  public int took(int thing) {
    return isThing(thing) ? night.dwelling.lastOwner(thing) : refuseBad(BAD);
  }

  public int canNot() {
    int reached = finder.reachedByDawn(night.dwelling);
    int bits = 0;
    for (int t = 0; t < night.dwelling.things; t++) {
      if (bit(reached, night.dwelling.homes[t]) == 0) {
        bits |= 1 << t;
      }
    }
    return bits;
  }

  // ---- what was heard

  public int heard(int sleeper, int m, int is) {
    if (!isSleeper(sleeper) || !within(m, ROW_MINUTES) || !within(is, 1)) {
      return refuseBad(BAD);
    }
    if (night.heards >= HEARDS) {
      return refuseFull();
    }
    return night.addHeard(sleeper, m, is);
  }

  public int forget() {
    int had = night.heards;
    night.heards = 0;
    return had;
  }

  public int may(int m) {
    if (!within(m, ROW_MINUTES)) {
      return refuseBad(BAD);
    }
    rows.tally(night);
    return rows.roomsIn(m);
  }

  public long ways() {
    rows.tally(night);
    return rows.total();
  }

  public int listen(int m) {
    if (!within(m, ROW_MINUTES - 1)) {
      return refuseBad(BAD);
    }
    rows.tally(night);
    return rows.bestListener(night.dwelling, m);
  }

  public int clocks(int room, int c, int n) {
    if (!isRoom(room) || !within(c, 10) || !within(n, SLEEPERS)) {
      return refuseBad(BAD);
    }
    int sure = night.awake | night.dwelling.wakers(CLOCK_NOISE, room, night.minute);
    weighClocks(sure, c);
    long sum = 0;
    for (int up = 0; up <= n; up++) {
      sum += chances[up];
    }
    long all = 1;
    for (int up = Integer.bitCount(sure); up < night.dwelling.sleepers; up++) {
      all *= 10;
    }
    keepFraction(sum, all);
    return 1;
  }

  public int nights(int seed, int n) {
    if (!within(seed, LAST_SEED) || !within(n, LAST_MINUTE)) {
      return refuseBad(BAD);
    }
    return night.awakeAfter(seed, n);
  }

  // ---- what there is

  public long part(int what) {
    if (!within(what, 1)) {
      return refuseBad(BAD);
    }
    return what == 0 ? above : below;
  }

  public int image(int i) {
    if (!within(i, IMAGES - 1)) {
      return refuseBad(BAD);
    }
    images[i].copyFrom(night);
    kept[i] = true;
    return 1;
  }

  public int from(int i) {
    if (!within(i, IMAGES - 1)) {
      return refuseBad(BAD);
    }
    if (!kept[i]) {
      return refuseNo();
    }
    night.copyFrom(images[i]);
    return 1;
  }

  public int status(int what) {
    switch (what) {
      case 0:
        return bads;
      case 1:
        return nos;
      case 2:
        return fulls;
      default:
        return refuseBad(-1);
    }
  }

  public int count(int what) {
    switch (what) {
      case 0:
        return night.dwelling.sleepers;
      case 1:
        return night.dwelling.things;
      case 2:
        return night.minute;
      case 3:
        return Integer.bitCount(night.awake);
      case 4:
        return night.heards;
      case 5:
        return night.undos;
      case 6:
        return reader.length;
      default:
        return refuseBad(BAD);
    }
  }

  public long digest() {
    long h = 1103;
    for (int what = 0; what <= 6; what++) {
      h = 31 * h + count(what);
    }
    h = night.dwelling.foldStairs(h);
    h = night.foldSleepersAndPupils(h);
    h = night.dwelling.foldThings(h);
    h = night.foldHeard(h);
    h = 31 * h + above;
    return 31 * h + below;
  }

  // ---- what the calls share

  private int refuseBad(int answer) {
    bads++;
    return answer;
  }

  private int refuseNo() {
    nos++;
    return NO;
  }

  private int refuseFull() {
    fulls++;
    return FULL;
  }

  private boolean isSleeper(int number) {
    return within(number, night.dwelling.sleepers - 1);
  }

  private boolean isThing(int number) {
    return within(number, night.dwelling.things - 1);
  }

  private static boolean isRoom(int number) {
    return within(number, LAST_ROOM);
  }

  private static boolean isPupil(int number) {
    return within(number, PUPILS - 1);
  }

  /** Whether it is one of 0 .. most; a most of -1 has none. */
  private static boolean within(int number, int most) {
    return number >= 0 && number <= most;
  }

  private static int bit(int bits, int place) {
    return bits >> place & 1;
  }

  /** Where two rooms stand in a row that has a place for each pair. */
  private static int pair(int a, int b) {
    return a * ROOMS + b;
  }

  /** chances[k]: in how many of ten to the power of the unsure ones just k sleepers are awake. */
  private void weighClocks(int sure, int c) {
    for (int k = 0; k <= SLEEPERS; k++) {
      chances[k] = k == Integer.bitCount(sure) ? 1 : 0;
    }
    for (int s = 0; s < night.dwelling.sleepers; s++) {
      if (bit(sure, s) == 0) {
        for (int k = SLEEPERS; k > 0; k--) {
          chances[k] = chances[k] * (10 - c) + chances[k - 1] * c;
        }
        chances[0] *= 10 - c;
      }
    }
  }

  private void keepFraction(long up, long down) {
    long common = commonDivisor(up, down);
    if (common > 0) {
      above = up / common;
      below = down / common;
    }
  }

  private static long commonDivisor(long up, long down) {
    long a = up;
    long b = down;
    // Euclid's rests of numbers up to 100000 end within 25 turns.
    for (int turn = 0; turn < 100 && b != 0; turn++) {
      long rest = a % b;
      a = b;
      b = rest;
    }
    return a;
  }

  // ---- kinds of sleepers, each under the one whose ears it changes

  private static class Plain {
    /** The least noise heard by which one wakes. */
    int wakingNoise(int ears, int minute, boolean inOwnRoom) {
      return ears + 2;
    }
  }

  private static class Light extends Plain {
    int wakingNoise(int ears, int minute, boolean inOwnRoom) {
      return super.wakingNoise(ears, minute, inOwnRoom) / 2;
    }
  }

  private static class Old extends Plain {
    int wakingNoise(int ears, int minute, boolean inOwnRoom) {
      int plain = super.wakingNoise(ears, minute, inOwnRoom);
      return minute % 10 == 0 ? plain / 2 : plain + 3;
    }
  }

  private static final class Dog extends Light {
    int wakingNoise(int ears, int minute, boolean inOwnRoom) {
      return inOwnRoom ? 1 : super.wakingNoise(ears, minute, inOwnRoom);
    }
  }

  private static final class Owl extends Light {
    int wakingNoise(int ears, int minute, boolean inOwnRoom) {
      int light = super.wakingNoise(ears, minute, inOwnRoom);
      return minute < 30 ? light : 2 * light;
    }
  }

  private static final class Snorer extends Old {
    int wakingNoise(int ears, int minute, boolean inOwnRoom) {
      int old = super.wakingNoise(ears, minute, inOwnRoom);
      return minute % 2 == 1 ? 2 * old : old;
    }
  }

  /** What a text can tell: stairs, sleepers, things. */
  private static final class House {
    final Plain[] kinds =
        new Plain[] {new Plain(), new Light(), new Old(), new Dog(), new Owl(), new Snorer()};
    final int[] creaks = new int[ROOMS * ROOMS];
    final int[] gaps = new int[ROOMS * ROOMS];
    final int[] kindOf = new int[SLEEPERS];
    final int[] roomOf = new int[SLEEPERS];
    final int[] earsOf = new int[SLEEPERS];
    final int[] homes = new int[THINGS];
    final int[] ownerCounts = new int[THINGS];
    final int[] owners = new int[THINGS * OWNERS];
    int sleepers;
    int things;

    House() {
      empty();
    }

    void empty() {
      sleepers = 0;
      things = 0;
      for (int i = 0; i < ROOMS * ROOMS; i++) {
        creaks[i] = NONE;
      }
      measure();
    }

    void copyFrom(House other) {
      System.arraycopy(other.creaks, 0, creaks, 0, ROOMS * ROOMS);
      System.arraycopy(other.gaps, 0, gaps, 0, ROOMS * ROOMS);
      System.arraycopy(other.kindOf, 0, kindOf, 0, SLEEPERS);
      System.arraycopy(other.roomOf, 0, roomOf, 0, SLEEPERS);
      System.arraycopy(other.earsOf, 0, earsOf, 0, SLEEPERS);
      System.arraycopy(other.homes, 0, homes, 0, THINGS);
      System.arraycopy(other.ownerCounts, 0, ownerCounts, 0, THINGS);
      System.arraycopy(other.owners, 0, owners, 0, THINGS * OWNERS);
      sleepers = other.sleepers;
      things = other.things;
    }

    /** Who calls this, or one of the three below, has looked at the numbers and for a place. */
    int addStair(int a, int b, int creak) {
      int had = creaks[pair(a, b)];
      creaks[pair(a, b)] = creak;
      creaks[pair(b, a)] = creak;
      if (had == NONE) {
        measure();
      }
      return had;
    }

    int addSleeper(int kind, int room, int ears) {
      kindOf[sleepers] = kind;
      roomOf[sleepers] = room;
      earsOf[sleepers] = ears;
      sleepers++;
      return sleepers - 1;
    }

    int addThing(int home) {
      homes[things] = home;
      ownerCounts[things] = 0;
      things++;
      return things - 1;
    }

    int addOwner(int thing, int pupil) {
      owners[thing * OWNERS + ownerCounts[thing]] = pupil;
      ownerCounts[thing]++;
      return ownerCounts[thing];
    }

    int lastOwner(int thing) {
      int many = ownerCounts[thing];
      return many == 0 ? NONE : owners[thing * OWNERS + many - 1];
    }

    boolean wasTakenFrom(int thing, int pupil) {
      for (int i = 0; i < ownerCounts[thing] - 1; i++) {
        if (owners[thing * OWNERS + i] == pupil) {
          return true;
        }
      }
      return false;
    }

    private void measure() {
      for (int a = 0; a < ROOMS; a++) {
        for (int b = 0; b < ROOMS; b++) {
          int joined = creaks[pair(a, b)] == NONE ? APART : 1;
          gaps[pair(a, b)] = a == b ? 0 : joined;
        }
      }
      for (int by = 0; by < ROOMS; by++) {
        for (int a = 0; a < ROOMS; a++) {
          for (int b = 0; b < ROOMS; b++) {
            int around = gaps[pair(a, by)] + gaps[pair(by, b)];
            gaps[pair(a, b)] = Math.min(gaps[pair(a, b)], around);
          }
        }
      }
    }

    /** The least noise in a room that wakes a sleeper; 1 at least by all kinds, so 0 never does. */
    int leastNoise(int s, int room, int minute) {
      Plain kind = kinds[kindOf[s]];
      int heard = kind.wakingNoise(earsOf[s], minute, roomOf[s] == room);
      return heard + 2 * gaps[pair(room, roomOf[s])];
    }

    int wakers(int noise, int room, int minute) {
      int bits = 0;
      for (int s = 0; s < sleepers; s++) {
        if (noise >= leastNoise(s, room, minute)) {
          bits |= 1 << s;
        }
      }
      return bits;
    }

    int loudest(int room, int minute) {
      int most = LOUDEST_NOISE;
      for (int s = 0; s < sleepers; s++) {
        most = Math.min(most, leastNoise(s, room, minute) - 1);
      }
      return most;
    }

    long foldStairs(long start) {
      long h = start;
      for (int a = 0; a < ROOMS; a++) {
        for (int b = a + 1; b < ROOMS; b++) {
          h = 31 * h + creaks[pair(a, b)];
        }
      }
      return h;
    }

    long foldThings(long start) {
      long h = start;
      for (int t = 0; t < things; t++) {
        h = 31 * h + homes[t];
        h = 31 * h + ownerCounts[t];
        for (int i = 0; i < ownerCounts[t]; i++) {
          h = 31 * h + owners[t * OWNERS + i];
        }
      }
      return h;
    }
  }

  /** All that an image keeps: a house, who is where in it, what was heard, what may be undone. */
  private static final class Night {
    final House dwelling = new House();
    final int[] rooms = new int[PUPILS];
    final int[] roaming = new int[PUPILS];
    final int[] undoMinutes = new int[UNDOS];
    final int[] undoAwake = new int[UNDOS];
    final int[] undoRooms = new int[UNDOS];
    final int[] heardSleepers = new int[HEARDS];
    final int[] heardMinutes = new int[HEARDS];
    final int[] heardSigns = new int[HEARDS];
    int minute;
    int awake;
    int undos;
    int heards;

    void begin() {
      minute = 0;
      awake = 0;
      undos = 0;
      heards = 0;
      for (int p = 0; p < PUPILS; p++) {
        rooms[p] = 0;
      }
    }

    void copyFrom(Night other) {
      dwelling.copyFrom(other.dwelling);
      System.arraycopy(other.rooms, 0, rooms, 0, PUPILS);
      System.arraycopy(other.undoMinutes, 0, undoMinutes, 0, UNDOS);
      System.arraycopy(other.undoAwake, 0, undoAwake, 0, UNDOS);
      System.arraycopy(other.undoRooms, 0, undoRooms, 0, UNDOS);
      System.arraycopy(other.heardSleepers, 0, heardSleepers, 0, HEARDS);
      System.arraycopy(other.heardMinutes, 0, heardMinutes, 0, HEARDS);
      System.arraycopy(other.heardSigns, 0, heardSigns, 0, HEARDS);
      minute = other.minute;
      awake = other.awake;
      undos = other.undos;
      heards = other.heards;
    }

    int go(int pupil, int room, int creak) {
      remember();
      int wakers = dwelling.wakers(creak, room, minute);
      rooms[pupil] = room;
      awake |= wakers;
      minute = Math.min(minute + 1, LAST_MINUTE);
      return wakers;
    }

    void remember() {
      if (undos == UNDOS) {
        dropOldest();
      }
      undoMinutes[undos] = minute;
      undoAwake[undos] = awake;
      int packed = 0;
      for (int p = 0; p < PUPILS; p++) {
        packed = packed * ROOMS + rooms[p];
      }
      undoRooms[undos] = packed;
      undos++;
    }

    private void dropOldest() {
      for (int i = 1; i < UNDOS; i++) {
        undoMinutes[i - 1] = undoMinutes[i];
        undoAwake[i - 1] = undoAwake[i];
        undoRooms[i - 1] = undoRooms[i];
      }
      undos = UNDOS - 1;
    }

    /** The caller has looked whether there is one to undo. */
    int goBack() {
      undos--;
      minute = undoMinutes[undos];
      awake = undoAwake[undos];
      int packed = undoRooms[undos];
      for (int p = PUPILS - 1; p >= 0; p--) {
        rooms[p] = packed % ROOMS;
        packed /= ROOMS;
      }
      return minute;
    }

    int addHeard(int sleeper, int m, int is) {
      heardSleepers[heards] = sleeper;
      heardMinutes[heards] = m;
      heardSigns[heards] = is;
      heards++;
      return heards;
    }

    /** Sleepers (bits) of whom it is told that they heard a minute's step (1), or did not (0). */
    int toldOf(int m, int sign) {
      int bits = 0;
      for (int i = 0; i < heards; i++) {
        if (heardMinutes[i] == m && heardSigns[i] == sign) {
          bits |= 1 << heardSleepers[i];
        }
      }
      return bits;
    }

    int awakeAfter(int seed, int minutes) {
      System.arraycopy(rooms, 0, roaming, 0, PUPILS);
      long x = seed;
      int up = awake;
      int now = minute;
      for (int i = 0; i < minutes; i++) {
        for (int p = 0; p < PUPILS; p++) {
          x = (x * 1103515245L + 12345L) % 2147483648L;
          int room = (int) (x / 65536L % ROOMS);
          int creak = dwelling.creaks[pair(roaming[p], room)];
          if (creak >= 0) {
            up |= dwelling.wakers(creak, room, now);
            roaming[p] = room;
          }
        }
        now = Math.min(now + 1, LAST_MINUTE);
      }
      return Integer.bitCount(up);
    }

    long foldSleepersAndPupils(long start) {
      long h = start;
      for (int s = 0; s < dwelling.sleepers; s++) {
        h = 31 * h + dwelling.kindOf[s];
        h = 31 * h + dwelling.roomOf[s];
        h = 31 * h + dwelling.earsOf[s];
        h = 31 * h + bit(awake, s);
      }
      for (int p = 0; p < PUPILS; p++) {
        h = 31 * h + rooms[p];
      }
      return h;
    }

    long foldHeard(long start) {
      long h = start;
      for (int i = 0; i < heards; i++) {
        h = 31 * h + heardSleepers[i];
        h = 31 * h + heardMinutes[i];
        h = 31 * h + heardSigns[i];
      }
      return h;
    }
  }

  /** Reads a text, token by token, into a house; where it stops short, that token is the fault. */
  private static final class Reader {
    private static final int END = 0, WORD = 1, NUMBER = 2, STOP = 3, WRONG = 4;
    private static final int MOST_FIGURES = 2;

    final byte[] text = new byte[TEXT_BYTES];
    int length;
    private int start;
    private int end;
    private int sort;

    int append(int c) {
      text[length] = (byte) c;
      length++;
      return length;
    }

    /** How many items; less than 0, if there is a fault: the house is then half read. */
    int readInto(House target) {
      target.empty();
      end = 0;
      int items = 0;
      advance();
      boolean fits = isWord("house") && stopNext();
      // Each item has a byte of its own at least.
      for (int i = 0; fits && i < TEXT_BYTES; i++) {
        items++;
        advance();
        if (sort == END) {
          return items;
        }
        fits = readItem(target);
      }
      return FAULT_BASE - start;
    }

    private boolean readItem(House target) {
      if (isWord("stair")) {
        return readStair(target);
      }
      if (isWord("sleeper")) {
        return readSleeper(target);
      }
      return isWord("thing") && readThing(target);
    }

    private boolean readStair(House target) {
      int a = numberNext(LAST_ROOM);
      int b = a == NONE ? NONE : numberNext(LAST_ROOM);
      int creak = b == NONE || a == b ? NONE : numberNext(LOUDEST_CREAK);
      if (creak == NONE) {
        return false;
      }
      target.addStair(a, b, creak);
      return stopNext();
    }

    private boolean readSleeper(House target) {
      if (target.sleepers >= SLEEPERS) {
        return false;
      }
      int kind = numberNext(KINDS - 1);
      int room = kind == NONE ? NONE : numberNext(LAST_ROOM);
      int ears = room == NONE ? NONE : numberNext(SHARPEST_EARS);
      if (ears == NONE) {
        return false;
      }
      target.addSleeper(kind, room, ears);
      return stopNext();
    }

    private boolean readThing(House target) {
      if (target.things >= THINGS) {
        return false;
      }
      int home = numberNext(LAST_ROOM);
      if (home == NONE) {
        return false;
      }
      int thing = target.addThing(home);
      for (int i = 0; i < OWNERS; i++) {
        int pupil = numberNext(PUPILS - 1);
        if (sort == STOP) {
          return true;
        }
        if (pupil == NONE || pupil == target.lastOwner(thing)) {
          return false;
        }
        target.addOwner(thing, pupil);
      }
      return stopNext();
    }

    private boolean stopNext() {
      advance();
      return sort == STOP;
    }

    /** The number that comes next; NONE, if what comes is none of 0 .. most. */
    private int numberNext(int most) {
      advance();
      if (sort != NUMBER) {
        return NONE;
      }
      int number = 0;
      for (int i = start; i < end; i++) {
        number = number * 10 + text[i] - '0';
      }
      return number <= most ? number : NONE;
    }

    private boolean isWord(String word) {
      if (sort != WORD || end - start != word.length()) {
        return false;
      }
      for (int i = 0; i < word.length(); i++) {
        if (text[start + i] != word.charAt(i)) {
          return false;
        }
      }
      return true;
    }

    private void advance() {
      start = end;
      while (start < length && text[start] == ' ') {
        start++;
      }
      end = start;
      if (start >= length) {
        sort = END;
      } else if (text[start] == ';') {
        sort = STOP;
        end++;
      } else if (endOfRun('a', 'z') > start) {
        sort = WORD;
        end = endOfRun('a', 'z');
      } else {
        end = endOfRun('0', '9');
        sort = end > start && end - start <= MOST_FIGURES ? NUMBER : WRONG;
      }
    }

    private int endOfRun(char least, char most) {
      int place = start;
      while (place < length && text[place] >= least && text[place] <= most) {
        place++;
      }
      return place;
    }
  }

  /** Ways through a house by which nobody wakes; sets of rooms are bits. */
  private static final class Finder {
    private static final int DOOR = 0;

    /** By room: it and those to which one may go from it, as it was last looked at. */
    final int[] quiet = new int[ROOMS];
    /** By the first pupil's room: the rooms in which the second may be. */
    final int[] pairs = new int[ROOMS];
    final int[] nextPairs = new int[ROOMS];

    private void lookAt(House dwelling, int minute) {
      stayOnly();
      for (int b = 0; b < ROOMS; b++) {
        allowInto(dwelling, b, dwelling.loudest(b, minute));
      }
    }

    private void allowCreaks(House dwelling, int most) {
      stayOnly();
      for (int b = 0; b < ROOMS; b++) {
        allowInto(dwelling, b, most);
      }
    }

    private void stayOnly() {
      for (int a = 0; a < ROOMS; a++) {
        quiet[a] = 1 << a;
      }
    }

    private void allowInto(House dwelling, int b, int most) {
      for (int a = 0; a < ROOMS; a++) {
        int creak = dwelling.creaks[pair(a, b)];
        if (creak >= 0 && creak <= most) {
          quiet[a] |= 1 << b;
        }
      }
    }

    private int roomsAfter(int rooms) {
      int bits = 0;
      for (int a = 0; a < ROOMS; a++) {
        if (bit(rooms, a) == 1) {
          bits |= quiet[a];
        }
      }
      return bits;
    }

    private int roomsAhead(int rooms) {
      int bits = 0;
      for (int a = 0; a < ROOMS; a++) {
        if ((quiet[a] & rooms) != 0) {
          bits |= 1 << a;
        }
      }
      return bits;
    }

    int fewestMinutes(House dwelling, int start, int goal, int minute) {
      int reached = 1 << start;
      for (int now = minute; now < LAST_MINUTE; now++) {
        if (bit(reached, goal) == 1) {
          return now - minute;
        }
        lookAt(dwelling, now);
        reached = roomsAfter(reached);
      }
      return bit(reached, goal) == 1 ? LAST_MINUTE - minute : NONE;
    }

    /** The least room a minute on, by a way of just so many minutes, which there is. */
    int firstRoom(House dwelling, int start, int goal, int minute, int minutes) {
      if (minutes == 0) {
        return goal;
      }
      int fit = 1 << goal;
      for (int now = minute + minutes - 1; now > minute; now--) {
        lookAt(dwelling, now);
        fit = roomsAhead(fit);
      }
      lookAt(dwelling, minute);
      for (int room = 0; room < ROOMS; room++) {
        if (bit(quiet[start] & fit, room) == 1) {
          return room;
        }
      }
      return NONE;
    }

    int reachedByDawn(House dwelling) {
      int reached = 1 << DOOR;
      for (int now = 0; now < LAST_MINUTE; now++) {
        lookAt(dwelling, now);
        reached = roomsAfter(reached);
      }
      return reached;
    }

    int leastWorstCreak(House dwelling, int start, int goal) {
      for (int most = 0; most <= LOUDEST_CREAK; most++) {
        allowCreaks(dwelling, most);
        int reached = 1 << start;
        for (int steps = 1; steps < ROOMS; steps++) {
          reached = roomsAfter(reached);
        }
        if (bit(reached, goal) == 1) {
          return most;
        }
      }
      return NONE;
    }

    int fewestMinutesOfTwo(House dwelling, int u, int v) {
      for (int a = 0; a < ROOMS; a++) {
        pairs[a] = a == DOOR ? 1 << DOOR : 0;
      }
      for (int now = 0; now < SCHEDULE_MINUTES; now++) {
        if (bit(pairs[u], v) == 1) {
          return now;
        }
        lookAt(dwelling, now);
        goTogether();
      }
      return bit(pairs[u], v) == 1 ? SCHEDULE_MINUTES : NONE;
    }

    private void goTogether() {
      for (int to = 0; to < ROOMS; to++) {
        int bits = 0;
        for (int at = 0; at < ROOMS; at++) {
          if (bit(quiet[at], to) == 1) {
            bits |= secondGoes(at, to);
          }
        }
        // But for the door, no room holds both when a minute is over.
        nextPairs[to] = to == DOOR ? bits : bits & ~(1 << to);
      }
      System.arraycopy(nextPairs, 0, pairs, 0, ROOMS);
    }

    /** Rooms to which the second may go while the first goes from one room to another, or stays. */
    private int secondGoes(int at, int to) {
      int bits = 0;
      for (int other = 0; other < ROOMS; other++) {
        if (bit(pairs[at], other) == 1) {
          // One stair by both at once is one against the other; side by side they would meet behind it.
          boolean against = at != to && other == to;
          bits |= against ? quiet[other] & ~(1 << at) : quiet[other];
        }
      }
      return bits;
    }
  }

  /** Rows of rooms, minute by minute, by which all that was heard is so; how many, not which. */
  private static final class Rows {
    /** By minute and room: the rooms (bits) behind the next step that fits what was heard. */
    final int[] leads = new int[ROW_MINUTES * ROOMS];
    /** By minute and room: how many rows lead there from the door, and how many on to the end. */
    final long[] before = new long[(ROW_MINUTES + 1) * ROOMS];
    final long[] behind = new long[(ROW_MINUTES + 1) * ROOMS];

    void tally(Night night) {
      for (int m = 0; m < ROW_MINUTES; m++) {
        for (int a = 0; a < ROOMS; a++) {
          leads[pair(m, a)] = 0;
        }
        findLeads(night, m);
      }
      tallyBefore();
      tallyBehind();
    }

    private void findLeads(Night night, int m) {
      int must = night.toldOf(m, 1);
      int mustNot = night.toldOf(m, 0);
      for (int a = 0; a < ROOMS; a++) {
        for (int b = 0; b < ROOMS; b++) {
          int creak = night.dwelling.creaks[pair(a, b)];
          if (a == b || creak >= 0) {
            int hear = (must | mustNot) == 0 || a == b ? 0 : night.dwelling.wakers(creak, b, m);
            if ((hear & must) == must && (hear & mustNot) == 0) {
              leads[pair(m, a)] |= 1 << b;
            }
          }
        }
      }
    }

    private void tallyBefore() {
      for (int i = 0; i < before.length; i++) {
        before[i] = 0;
      }
      before[0] = 1;
      for (int m = 0; m < ROW_MINUTES; m++) {
        for (int a = 0; a < ROOMS; a++) {
          for (int b = 0; b < ROOMS; b++) {
            if (bit(leads[pair(m, a)], b) == 1) {
              before[pair(m + 1, b)] += before[pair(m, a)];
            }
          }
        }
      }
    }

    private void tallyBehind() {
      for (int i = 0; i < behind.length; i++) {
        behind[i] = i < ROW_MINUTES * ROOMS ? 0 : 1;
      }
      for (int m = ROW_MINUTES - 1; m >= 0; m--) {
        for (int a = 0; a < ROOMS; a++) {
          for (int b = 0; b < ROOMS; b++) {
            if (bit(leads[pair(m, a)], b) == 1) {
              behind[pair(m, a)] += behind[pair(m + 1, b)];
            }
          }
        }
      }
    }

    /** All rows begin at the door. */
    long total() {
      return behind[0];
    }

    int roomsIn(int m) {
      int bits = 0;
      for (int a = 0; a < ROOMS; a++) {
        if (before[pair(m, a)] > 0 && behind[pair(m, a)] > 0) {
          bits |= 1 << a;
        }
      }
      return bits;
    }

    int bestListener(House dwelling, int m) {
      int best = NONE;
      long least = 0;
      for (int s = 0; s < dwelling.sleepers && total() > 0; s++) {
        long heard = rowsHeardBy(dwelling, s, m);
        long greater = Math.max(heard, total() - heard);
        if (best == NONE || greater < least) {
          least = greater;
          best = s;
        }
      }
      return best;
    }

    private long rowsHeardBy(House dwelling, int s, int m) {
      long sum = 0;
      for (int a = 0; a < ROOMS; a++) {
        for (int b = 0; b < ROOMS; b++) {
          int creak = dwelling.creaks[pair(a, b)];
          boolean goes = creak >= 0 && bit(leads[pair(m, a)], b) == 1;
          if (goes && creak >= dwelling.leastNoise(s, b, m)) {
            sum += before[pair(m, a)] * behind[pair(m + 1, b)];
          }
        }
      }
      return sum;
    }
  }
}
