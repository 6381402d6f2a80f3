import java.util.ArrayList;
import java.util.List;

/** The calls by name, and between which ends the document tells each of their numbers. */
final class Calls {
  /** One number of a call: what sort of number it is, from where to where it is taken. */
  record Place(String sort, int least, int most) {}

  private static final String[][] ASKED = {
    {"stair", "room", "room", "creak"}, {"sleeper", "kind", "room", "ears"}, {"thing", "room"},
    {"owner", "thing", "pupil"}, {"type", "byte"}, {"step", "pupil", "room"}, {"waits", "wait"},
    {"of", "sleeper", "of"}, {"where", "pupil"}, {"far", "room", "room"}, {"wakes", "noise", "room", "minute"},
    {"loud", "room", "minute"}, {"way", "room", "room", "minute", "way"}, {"softest", "room", "room"},
    {"schedule", "room", "room"}, {"owed", "pupil"}, {"took", "thing"}, {"heard", "sleeper", "heard", "is"},
    {"may", "may"}, {"listen", "listen"}, {"clocks", "room", "odds", "fewer"}, {"nights", "seed", "span"},
    {"part", "part"}, {"image", "image"}, {"from", "image"}, {"status", "status"}, {"count", "count"}
  };
  /** Of sleepers and things there are two each in the house that Houses.busy makes. */
  private static final Place[] PLACES = {
    new Place("room", 0, 7), new Place("creak", 0, 9), new Place("kind", 0, 5), new Place("ears", 0, 9),
    new Place("thing", 0, 1), new Place("sleeper", 0, 1), new Place("pupil", 0, 2), new Place("byte", 0, 127),
    new Place("wait", 1, 59), new Place("of", 0, 3), new Place("noise", 0, 30), new Place("minute", 0, 59),
    new Place("way", 0, 1), new Place("heard", 0, 12), new Place("is", 0, 1), new Place("may", 0, 12),
    new Place("listen", 0, 11), new Place("odds", 0, 10), new Place("fewer", 0, 5), new Place("seed", 0, 999999),
    new Place("span", 0, 59), new Place("part", 0, 1), new Place("image", 0, 1), new Place("status", 0, 2),
    new Place("count", 0, 6)
  };

  private Calls() {}

  static List<String> names() {
    List<String> names = new ArrayList<>();
    for (String[] row : ASKED) {
      names.add(row[0]);
    }
    return names;
  }

  static List<Place> places(String name) {
    List<Place> places = new ArrayList<>();
    for (String[] row : ASKED) {
      for (int i = 1; i < row.length && row[0].equals(name); i++) {
        places.add(place(row[i]));
      }
    }
    return places;
  }

  private static Place place(String sort) {
    for (Place place : PLACES) {
      if (place.sort().equals(sort)) {
        return place;
      }
    }
    throw new IllegalArgumentException(sort);
  }

  /** Numbers that Houses.busy takes: no two rooms alike, no owner that is the last one. */
  static int[] good(String name) {
    switch (name) {
      case "stair":
        return new int[] {3, 4, 5};
      case "step":
        return new int[] {1, 1};
      case "waits":
        return new int[] {1};
      case "owner":
        return new int[] {1, 1};
      default:
        return new int[places(name).size()];
    }
  }

  /** What a call answers to a number that is not as told. */
  static int bad(String name) {
    return name.equals("stair") ? -10 : name.equals("status") ? -1 : -2;
  }

  static long call(PutBack x, String name, int... n) {
    switch (name) {
      case "house": return x.house();
      case "stair": return x.stair(n[0], n[1], n[2]);
      case "sleeper": return x.sleeper(n[0], n[1], n[2]);
      case "thing": return x.thing(n[0]);
      case "owner": return x.owner(n[0], n[1]);
      case "type": return x.type(n[0]);
      case "clear": return x.clear();
      case "read": return x.read();
      case "step": return x.step(n[0], n[1]);
      case "waits": return x.waits(n[0]);
      case "undo": return x.undo();
      case "of": return x.of(n[0], n[1]);
      case "where": return x.where(n[0]);
      case "far": return x.far(n[0], n[1]);
      case "wakes": return x.wakes(n[0], n[1], n[2]);
      case "loud": return x.loud(n[0], n[1]);
      case "way": return x.way(n[0], n[1], n[2], n[3]);
      case "softest": return x.softest(n[0], n[1]);
      case "schedule": return x.schedule(n[0], n[1]);
      case "owed": return x.owed(n[0]);
      case "took": return x.took(n[0]);
      case "canNot": return x.canNot();
      case "heard": return x.heard(n[0], n[1], n[2]);
      case "forget": return x.forget();
      case "may": return x.may(n[0]);
      case "ways": return x.ways();
      case "listen": return x.listen(n[0]);
      case "clocks": return x.clocks(n[0], n[1], n[2]);
      case "nights": return x.nights(n[0], n[1]);
      case "part": return x.part(n[0]);
      case "image": return x.image(n[0]);
      case "from": return x.from(n[0]);
      case "status": return x.status(n[0]);
      case "count": return x.count(n[0]);
      case "digest": return x.digest();
      default: throw new IllegalArgumentException(name);
    }
  }
}
