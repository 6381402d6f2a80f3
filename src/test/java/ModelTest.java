import java.math.BigInteger;
import java.util.ArrayList;
import java.util.HashSet;
import java.util.List;
import java.util.Random;
import java.util.Set;
import java.util.regex.Matcher;
import java.util.regex.Pattern;

/**
 * Random runs of calls, each answer compared with that of a model which follows the document's words
 * by other means than the class: it tries noises one by one, goes through ways by recursion, tells
 * all subsets of sleepers, splits a text by a pattern.
 */
public final class ModelTest {
  private static final int RUNS = 700;
  private static final int CALLS = 512;

  /** What an image keeps. */
  private static final class State {
    int[][] creak = new int[8][8];
    List<int[]> sleepers = new ArrayList<>();
    Set<Integer> awake = new HashSet<>();
    List<Integer> homes = new ArrayList<>();
    List<List<Integer>> owners = new ArrayList<>();
    int[] at = new int[3];
    int minute;
    List<int[]> heard = new ArrayList<>();
    List<Object[]> undo = new ArrayList<>();

    State() {
      for (int[] row : creak) {
        java.util.Arrays.fill(row, -1);
      }
    }

    State copy() {
      State s = new State();
      for (int a = 0; a < 8; a++) {
        s.creak[a] = creak[a].clone();
      }
      s.sleepers.addAll(sleepers);
      s.awake.addAll(awake);
      s.homes.addAll(homes);
      for (List<Integer> row : owners) {
        s.owners.add(new ArrayList<>(row));
      }
      s.at = at.clone();
      s.minute = minute;
      s.heard.addAll(heard);
      s.undo.addAll(undo);
      return s;
    }
  }

  private static final class Model {
    State s = new State();
    State[] images = new State[2];
    StringBuilder text = new StringBuilder();
    BigInteger above = BigInteger.ZERO;
    BigInteger below = BigInteger.ONE;
    int[] status = new int[3];

    int bad() {
      status[0]++;
      return -2;
    }

    int no() {
      status[1]++;
      return -3;
    }

    int full() {
      status[2]++;
      return -4;
    }

    static boolean in(int n, int least, int most) {
      return n >= least && n <= most;
    }

    int house() {
      int had = s.sleepers.size();
      s = new State();
      return had;
    }

    int stair(int a, int b, int creak) {
      if (!in(a, 0, 7) || !in(b, 0, 7) || a == b || !in(creak, 0, 9)) {
        bad();
        return -10;
      }
      int had = s.creak[a][b];
      s.creak[a][b] = creak;
      s.creak[b][a] = creak;
      return had;
    }

    int sleeper(int kind, int room, int ears) {
      if (!in(kind, 0, 5) || !in(room, 0, 7) || !in(ears, 0, 9)) {
        return bad();
      }
      if (s.sleepers.size() == 5) {
        return full();
      }
      s.sleepers.add(new int[] {kind, room, ears});
      s.undo.clear();
      return s.sleepers.size() - 1;
    }

    int thing(int home) {
      if (!in(home, 0, 7)) {
        return bad();
      }
      if (s.homes.size() == 5) {
        return full();
      }
      s.homes.add(home);
      s.owners.add(new ArrayList<>());
      return s.homes.size() - 1;
    }

    int owner(int thing, int pupil) {
      if (!in(thing, 0, s.homes.size() - 1) || !in(pupil, 0, 2)) {
        return bad();
      }
      List<Integer> row = s.owners.get(thing);
      if (!row.isEmpty() && row.get(row.size() - 1) == pupil) {
        return bad();
      }
      if (row.size() == 4) {
        return full();
      }
      row.add(pupil);
      return row.size();
    }

    int type(int c) {
      if (!in(c, 0, 127)) {
        return bad();
      }
      if (text.length() == 150) {
        return full();
      }
      text.append((char) c);
      return text.length();
    }

    int clear() {
      int had = text.length();
      text.setLength(0);
      return had;
    }

    /** Each token: its place, then what it is. */
    private List<Object[]> tokens() {
      List<Object[]> all = new ArrayList<>();
      Matcher m = Pattern.compile("[a-z]+|[0-9]+|;|[^ ]", Pattern.DOTALL).matcher(text);
      while (m.find()) {
        all.add(new Object[] {m.start(), m.group()});
      }
      return all;
    }

    int read() {
      List<Object[]> tokens = tokens();
      Model m = new Model();
      List<String> item = new ArrayList<>();
      int items = 0;
      for (Object[] token : tokens) {
        String word = (String) token[1];
        if (!canStand(m, item, word, items)) {
          return -10 - (Integer) token[0];
        }
        item.add(word);
        if (word.equals(";")) {
          m.take(item);
          items++;
          item.clear();
        }
      }
      if (items == 0 || !item.isEmpty()) {
        return -10 - text.length();
      }
      s = m.s;
      return items;
    }

    private static boolean number(String word, int most) {
      return word.matches("[0-9]{1,2}") && Integer.parseInt(word) <= most;
    }

    private static boolean canStand(Model m, List<String> item, String word, int items) {
      if (item.isEmpty()) {
        switch (word) {
          case "house":
            return items == 0;
          case "stair":
            return items > 0;
          case "sleeper":
            return items > 0 && m.s.sleepers.size() < 5;
          case "thing":
            return items > 0 && m.s.homes.size() < 5;
          default:
            return false;
        }
      }
      int place = item.size();
      switch (item.get(0)) {
        case "house":
          return word.equals(";");
        case "stair":
          if (place == 4) {
            return word.equals(";");
          }
          if (!number(word, place == 3 ? 9 : 7)) {
            return false;
          }
          return place != 2 || Integer.parseInt(word) != Integer.parseInt(item.get(1));
        case "sleeper":
          if (place == 4) {
            return word.equals(";");
          }
          return number(word, new int[] {0, 5, 7, 9}[place]);
        default:
          if (place == 1) {
            return number(word, 7);
          }
          if (word.equals(";")) {
            return true;
          }
          if (!number(word, 2) || place > 5) {
            return false;
          }
          return place == 2 || Integer.parseInt(word) != Integer.parseInt(item.get(place - 1));
      }
    }

    private void take(List<String> item) {
      int[] n = new int[item.size()];
      for (int i = 1; i < item.size() - 1; i++) {
        n[i] = Integer.parseInt(item.get(i));
      }
      switch (item.get(0)) {
        case "stair":
          stair(n[1], n[2], n[3]);
          break;
        case "sleeper":
          sleeper(n[1], n[2], n[3]);
          break;
        case "thing":
          thing(n[1]);
          for (int i = 2; i < item.size() - 1; i++) {
            owner(s.homes.size() - 1, n[i]);
          }
          break;
        default:
          break;
      }
    }

    private void remember() {
      s.undo.add(new Object[] {s.at.clone(), new HashSet<>(s.awake), s.minute});
      if (s.undo.size() > 8) {
        s.undo.remove(0);
      }
    }

    int step(int pupil, int room) {
      if (!in(pupil, 0, 2) || !in(room, 0, 7)) {
        return bad();
      }
      int creak = s.creak[s.at[pupil]][room];
      if (creak < 0) {
        return no();
      }
      remember();
      s.at[pupil] = room;
      int bits = 0;
      for (int i = 0; i < s.sleepers.size(); i++) {
        if (wakesOne(i, creak, room, s.minute)) {
          bits += 1 << i;
          s.awake.add(i);
        }
      }
      s.minute = s.minute == 59 ? 59 : s.minute + 1;
      return bits;
    }

    int waits(int n) {
      if (!in(n, 1, 59)) {
        return bad();
      }
      remember();
      for (int i = 0; i < n; i++) {
        s.minute = s.minute == 59 ? 59 : s.minute + 1;
      }
      return s.minute;
    }

    @SuppressWarnings("unchecked")
    int undo() {
      if (s.undo.isEmpty()) {
        return no();
      }
      Object[] was = s.undo.remove(s.undo.size() - 1);
      s.at = ((int[]) was[0]).clone();
      s.awake = new HashSet<>((Set<Integer>) was[1]);
      s.minute = (Integer) was[2];
      return s.minute;
    }

    int of(int sleeper, int what) {
      if (!in(sleeper, 0, s.sleepers.size() - 1) || !in(what, 0, 3)) {
        return bad();
      }
      return what < 3 ? s.sleepers.get(sleeper)[what] : s.awake.contains(sleeper) ? 1 : 0;
    }

    int where(int pupil) {
      return in(pupil, 0, 2) ? s.at[pupil] : bad();
    }

    private int stairs(int a, int b) {
      int[] d = new int[8];
      java.util.Arrays.fill(d, -1);
      d[a] = 0;
      List<Integer> queue = new ArrayList<>(List.of(a));
      for (int i = 0; i < queue.size(); i++) {
        int x = queue.get(i);
        for (int y = 0; y < 8; y++) {
          if (s.creak[x][y] >= 0 && d[y] < 0) {
            d[y] = d[x] + 1;
            queue.add(y);
          }
        }
      }
      return d[b];
    }

    int far(int a, int b) {
      return in(a, 0, 7) && in(b, 0, 7) ? stairs(a, b) : bad();
    }

    private static int threshold(int kind, int ears, int minute, boolean own) {
      switch (kind) {
        case 0:
          return ears + 2;
        case 1:
          return threshold(0, ears, minute, own) / 2;
        case 2:
          return minute % 10 == 0 ? threshold(0, ears, minute, own) / 2 : threshold(0, ears, minute, own) + 3;
        case 3:
          return own ? 1 : threshold(1, ears, minute, own);
        case 4:
          return threshold(1, ears, minute, own) * (minute < 30 ? 1 : 2);
        default:
          return threshold(2, ears, minute, own) * (minute % 2 == 0 ? 1 : 2);
      }
    }

    private boolean wakesOne(int i, int n, int room, int minute) {
      int[] who = s.sleepers.get(i);
      int d = stairs(room, who[1]);
      int heard = d < 0 ? 0 : Math.max(0, n - 2 * d);
      return heard > 0 && heard >= threshold(who[0], who[2], minute, who[1] == room);
    }

    private int wakers(int n, int room, int minute) {
      int bits = 0;
      for (int i = 0; i < s.sleepers.size(); i++) {
        if (wakesOne(i, n, room, minute)) {
          bits += 1 << i;
        }
      }
      return bits;
    }

    int wakes(int n, int room, int minute) {
      return in(n, 0, 30) && in(room, 0, 7) && in(minute, 0, 59) ? wakers(n, room, minute) : bad();
    }

    int loud(int room, int minute) {
      if (!in(room, 0, 7) || !in(minute, 0, 59)) {
        return bad();
      }
      int n = 30;
      while (wakers(n, room, minute) != 0) {
        n--;
      }
      return n;
    }

    /** may[minute][a][b]: whether one may be in b a minute behind being in a. */
    private boolean[][][] quiet() {
      boolean[][][] may = new boolean[60][8][8];
      for (int t = 0; t < 60; t++) {
        for (int a = 0; a < 8; a++) {
          for (int b = 0; b < 8; b++) {
            may[t][a][b] = a == b || (s.creak[a][b] >= 0 && wakers(s.creak[a][b], b, t) == 0);
          }
        }
      }
      return may;
    }

    private static final int FOREVER = 1000;

    private static int fewest(boolean[][][] may, Integer[][] known, int at, int to, int minute) {
      if (at == to) {
        return 0;
      }
      if (minute == 59) {
        return FOREVER;
      }
      if (known[minute][at] == null) {
        int best = FOREVER;
        for (int b = 0; b < 8; b++) {
          if (may[minute][at][b]) {
            best = Math.min(best, 1 + fewest(may, known, b, to, minute + 1));
          }
        }
        known[minute][at] = best;
      }
      return known[minute][at];
    }

    int way(int from, int to, int minute, int what) {
      if (!in(from, 0, 7) || !in(to, 0, 7) || !in(minute, 0, 59) || !in(what, 0, 1)) {
        return bad();
      }
      boolean[][][] may = quiet();
      Integer[][] known = new Integer[60][8];
      int best = fewest(may, known, from, to, minute);
      if (best >= FOREVER) {
        return -1;
      }
      if (what == 0) {
        return best;
      }
      if (from == to) {
        return to;
      }
      for (int b = 0; b < 8; b++) {
        if (may[minute][from][b] && 1 + fewest(may, known, b, to, minute + 1) == best) {
          return b;
        }
      }
      return -99;
    }

    private int worst(int at, int to, int seen, int creak) {
      if (at == to) {
        return creak;
      }
      int best = 10;
      for (int b = 0; b < 8; b++) {
        if (s.creak[at][b] >= 0 && (seen >> b & 1) == 0) {
          best = Math.min(best, worst(b, to, seen | 1 << b, Math.max(creak, s.creak[at][b])));
        }
      }
      return best;
    }

    int softest(int from, int to) {
      if (!in(from, 0, 7) || !in(to, 0, 7)) {
        return bad();
      }
      int best = worst(from, to, 1 << from, 0);
      return best == 10 ? -1 : best;
    }

    int schedule(int u, int v) {
      if (!in(u, 0, 7) || !in(v, 0, 7)) {
        return bad();
      }
      boolean[][][] may = quiet();
      Set<List<Integer>> now = new HashSet<>();
      now.add(List.of(0, 0));
      for (int t = 0; t <= 20; t++) {
        if (now.contains(List.of(u, v))) {
          return t;
        }
        Set<List<Integer>> next = new HashSet<>();
        for (List<Integer> both : now) {
          int a = both.get(0);
          int b = both.get(1);
          for (int x = 0; x < 8; x++) {
            for (int y = 0; y < 8; y++) {
              boolean oneStair = a != x && b != y && Math.min(a, x) == Math.min(b, y) && Math.max(a, x) == Math.max(b, y);
              boolean meet = x == y && x != 0;
              if (may[t][a][x] && may[t][b][y] && !oneStair && !meet) {
                next.add(List.of(x, y));
              }
            }
          }
        }
        now = next;
      }
      return -1;
    }

    int owed(int pupil) {
      if (!in(pupil, 0, 2)) {
        return bad();
      }
      int bits = 0;
      for (int t = 0; t < s.homes.size(); t++) {
        int first = s.owners.get(t).indexOf(pupil);
        if (first >= 0 && first < s.owners.get(t).size() - 1) {
          bits += 1 << t;
        }
      }
      return bits;
    }

    int took(int thing) {
      if (!in(thing, 0, s.homes.size() - 1)) {
        return bad();
      }
      List<Integer> row = s.owners.get(thing);
      return row.isEmpty() ? -1 : row.get(row.size() - 1);
    }

    int canNot() {
      int bits = 0;
      for (int t = 0; t < s.homes.size(); t++) {
        if (way(0, s.homes.get(t), 0, 0) == -1) {
          bits += 1 << t;
        }
      }
      return bits;
    }

    int heard(int sleeper, int m, int is) {
      if (!in(sleeper, 0, s.sleepers.size() - 1) || !in(m, 0, 12) || !in(is, 0, 1)) {
        return bad();
      }
      if (s.heard.size() == 6) {
        return full();
      }
      s.heard.add(new int[] {sleeper, m, is});
      return s.heard.size();
    }

    int forget() {
      int had = s.heard.size();
      s.heard.clear();
      return had;
    }

    /** Rows that fit all told, and are in a room in a minute (-1: wherever). */
    private long rows(List<int[]> told, int pinMinute, int pinRoom) {
      return rows(told, pinMinute, pinRoom, 0, 0, new Long[13][8]);
    }

    private long rows(List<int[]> told, int pinMinute, int pinRoom, int m, int at, Long[][] known) {
      if (m == pinMinute && at != pinRoom) {
        return 0;
      }
      if (m == 12) {
        return 1;
      }
      if (known[m][at] == null) {
        long sum = 0;
        for (int b = 0; b < 8; b++) {
          if ((b == at || s.creak[at][b] >= 0) && isSo(told, m, at, b)) {
            sum += rows(told, pinMinute, pinRoom, m + 1, b, known);
          }
        }
        known[m][at] = sum;
      }
      return known[m][at];
    }

    private boolean isSo(List<int[]> told, int m, int a, int b) {
      for (int[] t : told) {
        if (t[1] == m && (a != b && wakesOne(t[0], s.creak[a][b], b, m)) != (t[2] == 1)) {
          return false;
        }
      }
      return true;
    }

    int may(int m) {
      if (!in(m, 0, 12)) {
        return bad();
      }
      int bits = 0;
      for (int r = 0; r < 8; r++) {
        if (rows(s.heard, m, r) > 0) {
          bits += 1 << r;
        }
      }
      return bits;
    }

    long ways() {
      return rows(s.heard, -1, -1);
    }

    int listen(int m) {
      if (!in(m, 0, 11)) {
        return bad();
      }
      if (ways() == 0) {
        return -1;
      }
      int best = -1;
      long least = 0;
      for (int i = 0; i < s.sleepers.size(); i++) {
        List<int[]> yes = new ArrayList<>(s.heard);
        yes.add(new int[] {i, m, 1});
        List<int[]> not = new ArrayList<>(s.heard);
        not.add(new int[] {i, m, 0});
        long greater = Math.max(rows(yes, -1, -1), rows(not, -1, -1));
        if (best < 0 || greater < least) {
          best = i;
          least = greater;
        }
      }
      return best;
    }

    int clocks(int room, int c, int n) {
      if (!in(room, 0, 7) || !in(c, 0, 10) || !in(n, 0, 5)) {
        return bad();
      }
      int many = s.sleepers.size();
      int woken = wakers(9, room, s.minute);
      BigInteger sum = BigInteger.ZERO;
      for (int set = 0; set < 1 << many; set++) {
        BigInteger weight = BigInteger.ONE;
        int up = 0;
        for (int i = 0; i < many; i++) {
          boolean anyway = (set >> i & 1) == 1;
          weight = weight.multiply(BigInteger.valueOf(anyway ? c : 10 - c));
          up += anyway || s.awake.contains(i) || (woken >> i & 1) == 1 ? 1 : 0;
        }
        if (up <= n) {
          sum = sum.add(weight);
        }
      }
      BigInteger all = BigInteger.TEN.pow(many);
      BigInteger gcd = sum.gcd(all);
      above = sum.divide(gcd);
      below = all.divide(gcd);
      return 1;
    }

    int nights(int seed, int n) {
      if (!in(seed, 0, 999999) || !in(n, 0, 59)) {
        return bad();
      }
      BigInteger x = BigInteger.valueOf(seed);
      int[] at = s.at.clone();
      Set<Integer> up = new HashSet<>(s.awake);
      for (int i = 0; i < n; i++) {
        int minute = Math.min(59, s.minute + i);
        for (int p = 0; p < 3; p++) {
          x = x.multiply(BigInteger.valueOf(1103515245)).add(BigInteger.valueOf(12345)).mod(BigInteger.valueOf(2147483648L));
          int room = x.shiftRight(16).mod(BigInteger.valueOf(8)).intValue();
          if (s.creak[at[p]][room] >= 0) {
            for (int k = 0; k < s.sleepers.size(); k++) {
              if (wakesOne(k, s.creak[at[p]][room], room, minute)) {
                up.add(k);
              }
            }
            at[p] = room;
          }
        }
      }
      return up.size();
    }

    long part(int what) {
      return what == 0 ? above.longValueExact() : what == 1 ? below.longValueExact() : bad();
    }

    int image(int i) {
      if (!in(i, 0, 1)) {
        return bad();
      }
      images[i] = s.copy();
      return 1;
    }

    int from(int i) {
      if (!in(i, 0, 1)) {
        return bad();
      }
      if (images[i] == null) {
        return no();
      }
      s = images[i].copy();
      return 1;
    }

    int status(int what) {
      if (in(what, 0, 2)) {
        return status[what];
      }
      bad();
      return -1;
    }

    int count(int what) {
      switch (what) {
        case 0:
          return s.sleepers.size();
        case 1:
          return s.homes.size();
        case 2:
          return s.minute;
        case 3:
          return s.awake.size();
        case 4:
          return s.heard.size();
        case 5:
          return s.undo.size();
        case 6:
          return text.length();
        default:
          return bad();
      }
    }

    long digest() {
      List<Long> all = new ArrayList<>();
      for (int i = 0; i < 7; i++) {
        all.add((long) count(i));
      }
      for (int a = 0; a < 8; a++) {
        for (int b = a + 1; b < 8; b++) {
          all.add((long) s.creak[a][b]);
        }
      }
      for (int i = 0; i < s.sleepers.size(); i++) {
        for (int k = 0; k < 4; k++) {
          all.add((long) of(i, k));
        }
      }
      for (int a : s.at) {
        all.add((long) a);
      }
      for (int t = 0; t < s.homes.size(); t++) {
        all.add((long) s.homes.get(t));
        all.add((long) s.owners.get(t).size());
        for (int o : s.owners.get(t)) {
          all.add((long) o);
        }
      }
      for (int[] h : s.heard) {
        for (int v : h) {
          all.add((long) v);
        }
      }
      all.add(above.longValueExact());
      all.add(below.longValueExact());
      long h = 1103;
      for (long v : all) {
        h = 31 * h + v;
      }
      return h;
    }
  }

  private static int wrong = 0;
  /** Calls on the object of this run: what one answers behind its 512th is free. */
  private static int used = 0;
  private static final int[] answered = new int[36];
  private static final int[] refused = new int[36];

  /** Mostly a number as told, now and then one at or behind its edges. */
  private static int number(Random random, int least, int most) {
    int luck = random.nextInt(60);
    if (luck == 0) {
      return random.nextBoolean() ? least - 1 : most + 1;
    }
    if (luck == 1) {
      int[] wild = {random.nextInt(), Integer.MIN_VALUE, Integer.MAX_VALUE, -1, least - 1, most + 1};
      return wild[random.nextInt(wild.length)];
    }
    if (luck < 8) {
      return random.nextBoolean() ? least : most;
    }
    return least + random.nextInt(most - least + 1);
  }

  private static long call(Model x, int c, int[] n) {
    switch (c) {
      case 1: return x.house();
      case 2: return x.stair(n[0], n[1], n[2]);
      case 3: return x.sleeper(n[0], n[1], n[2]);
      case 4: return x.thing(n[0]);
      case 5: return x.owner(n[0], n[1]);
      case 6: return x.type(n[0]);
      case 7: return x.clear();
      case 8: return x.read();
      case 9: return x.step(n[0], n[1]);
      case 10: return x.waits(n[0]);
      case 11: return x.undo();
      case 12: return x.of(n[0], n[1]);
      case 13: return x.where(n[0]);
      case 14: return x.far(n[0], n[1]);
      case 15: return x.wakes(n[0], n[1], n[2]);
      case 16: return x.loud(n[0], n[1]);
      case 17: return x.way(n[0], n[1], n[2], n[3]);
      case 18: return x.softest(n[0], n[1]);
      case 19: return x.schedule(n[0], n[1]);
      case 20: return x.owed(n[0]);
      case 21: return x.took(n[0]);
      case 22: return x.canNot();
      case 23: return x.heard(n[0], n[1], n[2]);
      case 24: return x.forget();
      case 25: return x.may(n[0]);
      case 26: return x.ways();
      case 27: return x.listen(n[0]);
      case 28: return x.clocks(n[0], n[1], n[2]);
      case 29: return x.nights(n[0], n[1]);
      case 30: return x.part(n[0]);
      case 31: return x.image(n[0]);
      case 32: return x.from(n[0]);
      case 33: return x.status(n[0]);
      case 34: return x.count(n[0]);
      default: return x.digest();
    }
  }

  private static final String[] NAMES = {
    "", "house", "stair", "sleeper", "thing", "owner", "type", "clear", "read", "step", "waits", "undo", "of",
    "where", "far", "wakes", "loud", "way", "softest", "schedule", "owed", "took", "canNot", "heard", "forget",
    "may", "ways", "listen", "clocks", "nights", "part", "image", "from", "status", "count", "digest"
  };
  /** The greatest number of each place, as told. */
  private static final int[][] MOST = {
    {}, {}, {7, 7, 9}, {5, 7, 9}, {7}, {4, 2}, {127}, {}, {}, {2, 7}, {59}, {}, {4, 3}, {2}, {7, 7}, {30, 7, 59},
    {7, 59}, {7, 7, 59, 1}, {7, 7}, {7, 7}, {2}, {4}, {}, {4, 12, 1}, {}, {12}, {}, {11}, {7, 10, 5},
    {999999, 59}, {1}, {1}, {1}, {2}, {6}, {}
  };
  private static final int[] OFTEN = {
    0, 1, 40, 12, 10, 30, 2, 2, 3, 70, 8, 25, 10, 8, 12, 15, 15, 25, 12, 15, 8, 8, 6, 16, 2, 10, 8, 12, 14, 10, 6, 3,
    3, 8, 12, 25
  };

  private static boolean both(int run, PutBack x, Model model, int c, int[] n) {
    used++;
    long got = Calls.call(x, NAMES[c], n);
    long want = call(model, c, n);
    answered[c]++;
    if (want <= -2 && want >= -4) {
      refused[c]++;
    }
    if (got != want) {
      wrong++;
      System.out.println("run " + run + ": " + NAMES[c] + java.util.Arrays.toString(n) + " answered " + got + ", due is " + want);
      return false;
    }
    return true;
  }

  private static int[] numbers(Random random, int c, int ceiling) {
    int[] n = new int[MOST[c].length];
    for (int i = 0; i < n.length; i++) {
      int least = c == 10 ? 1 : 0;
      int most = MOST[c][i];
      if (c == 2 && i == 2 && ceiling < 9) {
        most = ceiling;
      }
      if (c == 10 && random.nextInt(4) > 0) {
        most = 4;
      }
      n[i] = number(random, least, most);
    }
    return n;
  }

  private static String someText(Random random) {
    StringBuilder t = new StringBuilder();
    String[] odd = {"house", "stair", "sleeper", "thing", ";", " ", "7", "003", "12", "x", "-", "\t", "A", "houses", "8"};
    if (random.nextInt(12) > 0) {
      t.append(random.nextBoolean() ? "house;" : " house ;  ");
    }
    int most = random.nextInt(14);
    for (int i = 0; i < most && t.length() < 138; i++) {
      if (random.nextInt(40) == 0) {
        t.append(odd[random.nextInt(odd.length)]);
      }
      String gap = random.nextInt(6) == 0 ? "  " : " ";
      switch (random.nextInt(3)) {
        case 0:
          t.append("stair").append(random.nextInt(9) == 0 ? "" : gap).append(random.nextInt(8)).append(gap).append(random.nextInt(8)).append(gap).append(random.nextInt(10));
          break;
        case 1:
          t.append("sleeper ").append(random.nextInt(6)).append(gap).append("0").append(random.nextInt(8)).append(gap).append(random.nextInt(10));
          break;
        default:
          t.append("thing ").append(random.nextInt(8));
          int last = -1;
          int owners = random.nextInt(random.nextInt(10) == 0 ? 6 : 5);
          for (int o = 0; o < owners; o++) {
            int next = random.nextInt(3);
            if (next != last || random.nextInt(12) == 0) {
              t.append(gap).append(next);
              last = next;
            }
          }
          break;
      }
      t.append(random.nextInt(9) == 0 ? " ;" : ";");
    }
    if (random.nextInt(6) == 0 && t.length() > 0) {
      int place = random.nextInt(t.length());
      if (random.nextBoolean()) {
        t.setLength(place);
      } else {
        t.setCharAt(place, (char) random.nextInt(128));
      }
    }
    if (random.nextInt(8) == 0) {
      t.append(' ');
    }
    return t.length() > 150 ? t.substring(0, 150) : t.toString();
  }

  private static boolean typeAndRead(int run, PutBack x, Model model, Random random) {
    boolean fine = both(run, x, model, 7, new int[0]);
    String text = someText(random);
    for (int i = 0; i < text.length(); i++) {
      fine &= both(run, x, model, 6, new int[] {text.charAt(i)});
    }
    fine &= both(run, x, model, 8, new int[0]);
    fine &= both(run, x, model, 35, new int[0]);
    if (!fine) {
      System.out.println("  the text was: " + text);
    }
    return fine;
  }

  private static int pick(Random random) {
    int sum = 0;
    for (int w : OFTEN) {
      sum += w;
    }
    int luck = random.nextInt(sum);
    int c = 0;
    while (luck >= OFTEN[c]) {
      luck -= OFTEN[c];
      c++;
    }
    return c;
  }

  private static void run(int run) {
    Random random = new Random(run * 7919L + 5);
    PutBack x = new PutBack();
    Model model = new Model();
    int ceiling = random.nextInt(10);
    used = 0;
    if (run % 3 == 0 && !typeAndRead(run, x, model, random)) {
      return;
    }
    // A turn makes two calls at most, and status is asked thrice at the end.
    while (used < CALLS - 4) {
      if (used < CALLS - 160 && random.nextInt(300) == 0 && !typeAndRead(run, x, model, random)) {
        return;
      }
      int c = pick(random);
      if (!both(run, x, model, c, numbers(random, c, ceiling))) {
        return;
      }
      // What an answer does not show, the digest does.
      if (random.nextInt(5) == 0 && !both(run, x, model, 35, new int[0])) {
        return;
      }
    }
    for (int i = 0; i < 3; i++) {
      both(run, x, model, 33, new int[] {i});
    }
  }

  /** Texts alone, one behind another, as most faults stand there. */
  private static void texts() {
    Random random = new Random(77);
    for (int i = 0; i < 3000; i++) {
      if (!typeAndRead(100000 + i, new PutBack(), new Model(), random)) {
        return;
      }
    }
  }

  public static void main(String[] args) {
    for (int r = 0; r < RUNS; r++) {
      run(r);
    }
    texts();
    for (int c = 1; c < 36; c++) {
      if (answered[c] < 200) {
        wrong++;
        System.out.println(NAMES[c] + " was called " + answered[c] + " times only");
      }
    }
    if (args.length > 0) {
      for (int c = 1; c < 36; c++) {
        System.out.println(NAMES[c] + ": " + answered[c] + ", refused " + refused[c]);
      }
    }
    System.out.println(wrong == 0 ? "all answers are the model's" : wrong + " answers are not the model's");
    if (wrong != 0) {
      System.exit(1);
    }
  }
}
