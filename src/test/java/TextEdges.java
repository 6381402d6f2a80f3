import java.util.function.Supplier;

/** A house told by a text: its tokens, its faults, what a house that is read takes the place of. */
final class TextEdges extends Edges {
  private static final String FIVE_SLEEPERS = "sleeper 0 0 0;sleeper 0 0 0;sleeper 0 0 0;sleeper 0 0 0;sleeper 0 0 0;";
  private static final String FIVE_THINGS = "thing 0;thing 0;thing 0;thing 0;thing 0;";

  TextEdges(Ledger ledger) {
    super(ledger);
  }

  void run() {
    items();
    tokens();
    faultsOfWords();
    faultsOfNumbers();
    faultsOfBytes();
    tooEarly();
    placeOfAll();
  }

  private static Supplier<PutBack> typed(String text) {
    return () -> {
      PutBack x = Houses.busy();
      Houses.type(x, text);
      return x;
    };
  }

  /** It is read in another house: so many items. */
  private void items(String text, int want) {
    PutBack x = new PutBack();
    x.stair(6, 7, 1);
    due("'" + text + "'", Houses.read(x, text), want);
    due("'" + text + "' has taken the old one's place: far", x.far(6, 7), -1);
  }

  /** All stays, and it is no refusal. */
  private void fault(String text, int place) {
    asked(typed(text), -10 - place, "read");
  }

  private void items() {
    says("THE HOUSE is told by a TEXT (150 bytes at most) of ITEMS, each ended by ; : house (once, first of all);"
        + " stair a b CREAK; sleeper KIND ROOM EARS; thing HOME and its OWNERS (any, 4 at most).");
    String most = "house;" + "stair 0 1 0;".repeat(12);
    due("a text of 150 bytes", most.length(), 150);
    items(most, 13);
    items("house;" + " ".repeat(144), 1);
    items(" ".repeat(144) + "house;", 1);
    items("house;", 1);
    items("house;stair 0 7 9;", 2);
    items("house;stair 7 0 0;", 2);
    items("house;sleeper 0 0 0;", 2);
    items("house;sleeper 5 7 9;", 2);
    items("house;thing 0;", 2);
    items("house;thing 7 2;", 2);
    items("house;thing 7 2 0 2 1;", 2);
    items("house;" + FIVE_SLEEPERS + FIVE_THINGS + "stair 0 1 2;", 12);
    fault("house;thing 7 2 0 2 1 0;", 22);
    PutBack x = Houses.told("house;stair 2 3 4;sleeper 1 2 3;thing 4 1 2 0;");
    due("the stair", x.stair(3, 2, 0), 4);
    due("kind", x.of(0, 0), 1);
    due("room", x.of(0, 1), 2);
    due("ears", x.of(0, 2), 3);
    due("one taken from 1", x.owed(1), 1);
    due("and from 2", x.owed(2), 1);
    due("by 0", x.took(0), 0);
  }

  private void tokens() {
    says("TOKENS: words of letters a .. z, figures (1 or 2 are one number), ; ; blanks (32) between.");
    items("house;stair 0 1 2;", 2);
    items("  house  ;  stair  0  1  2  ;  ", 2);
    items("house;stair 00 07 09;", 2);
    items("house;thing 07 02 00 01 2;", 2);
    items("house;sleeper 05 07 09;", 2);
    fault("house;stair 000 1 2;", 12);
    fault("house;stair 0 1 2a;", 17);
    fault("house;stair 0 1 2z;", 17);
    fault("housez;", 0);
    fault("ahouse;", 0);
    fault("ho use;", 0);
    fault("house;stair 0 1 2 ;;", 19);
    // Next to a .. z, 0 .. 9, 32 and 59 there are bytes that are of no token.
    int[] none = {0, 9, 10, 13, 31, 33, 47, 58, 60, 64, 65, 90, 91, 96, 123, 127};
    for (int c : none) {
      fault("house" + (char) c + ";", 5);
      fault("house;stair 0" + (char) c + "1 2;", 13);
      fault((char) c + "house;", 0);
      fault("house;" + (char) c, 6);
    }
  }

  private void faultsOfWords() {
    says("FAULT: the place of the first byte of the first TOKEN that can not stand there");
    fault("house;stair 8 9 99;sleepr;", 12);
    fault("house; ;", 7);
    fault("house stair 0 1 2;", 6);
    fault("house 1;", 6);
    fault("house;stair ;", 12);
    fault("house;stair 0;", 13);
    fault("house;stair 0 1;", 15);
    fault("house;stair 0 1 2 3;", 18);
    fault("house;sleeper 0 0;", 17);
    fault("house;sleeper 0 0 0 0;", 20);
    fault("house;thing;", 11);
    fault("house;thing thing;", 12);
    fault(" ".repeat(149) + ";", 149);

    says("(a word that is none,");
    fault("x", 0);
    fault("mouse;", 0);
    fault("house;xtair 0 1 2;", 6);
    fault("house;stait 0 1 2;", 6);
    fault("hous", 0);
    fault("hous;", 0);
    fault("houses;", 0);
    fault("house;stai 0 1 2;", 6);
    fault("house;stairs 0 1 2;", 6);
    fault("house;sleepers 0 0 0;", 6);
    fault("house;things 0;", 6);
    fault("house;  door;", 8);
    fault("house;stair 0 1 x;", 16);

    says("house again,");
    fault("house;house;", 6);
    fault("house;stair 0 1 2;house;", 18);
    fault("house house;", 6);

    says("anything ahead of it,");
    fault("stair 0 1 2;house;", 0);
    fault("sleeper 0 0 0;house;", 0);
    fault("thing 0;house;", 0);
    fault(";house;", 0);
    fault(" 1 house;", 1);

    says("a 6th sleeper,");
    items("house;" + FIVE_SLEEPERS, 6);
    fault("house;" + FIVE_SLEEPERS + "sleeper 0 0 0;", 76);
    fault("house;" + FIVE_SLEEPERS + " sleeper", 77);
    fault("house;" + FIVE_SLEEPERS + FIVE_THINGS + "sleeper 9", 116);

    says("a 6th thing at its word,");
    items("house;" + FIVE_THINGS, 6);
    fault("house;" + FIVE_THINGS + "thing 0;", 46);
    fault("house;" + FIVE_THINGS + " thing 8;", 47);
    fault("house;" + FIVE_THINGS + "thing", 46);
  }

  private void faultsOfNumbers() {
    says("a 5th owner,");
    items("house;thing 0 0 1 0 1;", 2);
    fault("house;thing 0 0 1 0 1 2;", 22);
    fault("house;thing 0 0 1 0 1 1;", 22);
    fault("house;thing 0 0 1 0 1   9", 24);

    says("a third figure's number,");
    fault("house;thing 007;", 12);
    fault("house;thing 0 000;", 14);
    fault("house;stair 0 1 009;", 16);
    fault("house;sleeper 0 0 0000;", 18);
    items("house;thing 7 0 01;", 2);

    says("a number not as told,");
    String[] last = {
      "stair 7 0 0", "stair 0 7 0", "stair 0 1 9", "sleeper 5 0 0", "sleeper 0 7 0", "sleeper 0 0 9", "thing 7", "thing 0 2"
    };
    String[] first = {
      "stair 8 0 0", "stair 0 8 0", "stair 0 1 10", "sleeper 6 0 0", "sleeper 0 8 0", "sleeper 0 0 10", "thing 8", "thing 0 3"
    };
    int[] places = {12, 14, 16, 14, 16, 18, 12, 14};
    for (int i = 0; i < last.length; i++) {
      items("house;" + last[i] + ";", 2);
      fault("house;" + first[i] + ";", places[i]);
      fault("house;" + first[i], places[i]);
    }
    fault("house;stair 99 0 0;", 12);
    fault("house;stair 08 0 0;", 12);

    says("also two ROOMS of a stair alike,");
    for (int room = 0; room < 8; room++) {
      fault("house;stair " + room + " " + room + " 0;", 14);
    }
    fault("house;stair 3 03 0;", 14);
    items("house;stair 3 4 3;stair 4 3 4;", 3);

    says("an owner like the one right ahead,");
    for (int pupil = 0; pupil < 3; pupil++) {
      fault("house;thing 0 " + pupil + " " + pupil + ";", 16);
      fault("house;thing 0 0 1 2 " + pupil + " " + pupil + ";", pupil == 2 ? 20 : 22);
    }
    fault("house;thing 0 1 01;", 16);
    items("house;thing 1 1 0 1;thing 1 1;", 3);
  }

  private void faultsOfBytes() {
    says("a byte that begins none, too);");
    fault("-", 0);
    fault("house -", 6);
    fault("house;-1;", 6);
    fault("house;stair 0 1 -1;", 16);
    fault("house;stair 0,1 2;", 13);
    fault("House;", 0);
    fault("house;Stair 0 1 2;", 6);
    fault("hOuse;", 0);
    fault("house;\t", 6);
  }

  private void tooEarly() {
    says("the TEXT's length, if it ends too early (an empty one, too).");
    fault("", 0);
    fault(" ", 1);
    fault(" ".repeat(150), 150);
    fault("house", 5);
    fault("house  ", 7);
    String[] early = {
      "stair", "stair 0", "stair 0 1", "stair 0 1 2", "sleeper", "sleeper 0 0 0 ", "thing", "thing 0", "thing 0 1 2 1 2"
    };
    for (String item : early) {
      fault("house;" + item, 6 + item.length());
      fault("house;" + item + "  ", 8 + item.length());
    }
    String longest = "house;" + "stair 0 1 0;".repeat(11) + "stair 0 1  0";
    fault(longest, 150);
  }

  private void placeOfAll() {
    says("A HOUSE that is read takes the place of all but IMAGES, THE TEXT, THE FRACTION, STATUS (MINUTE 0, PUPILS at"
        + " the door, HEARD none; nothing to undo).");
    PutBack x = Houses.busy();
    long above = x.part(0);
    long below = x.part(1);
    int[] refused = {x.status(0), x.status(1), x.status(2)};
    due("items", Houses.read(x, "house;"), 1);
    int[] counts = {0, 0, 0, 0, 0, 0, 6};
    for (int what = 0; what < 7; what++) {
      due("count " + what, x.count(what), counts[what]);
    }
    for (int p = 0; p < 3; p++) {
      due("at the door", x.where(p), 0);
    }
    due("no stairs", x.ways(), 1);
    fraction("the fraction stays", x, above, below);
    for (int k = 0; k < 3; k++) {
      due("status stays", x.status(k), refused[k]);
    }
    PutBack fresh = new PutBack();
    Houses.type(fresh, "house;");
    fresh.sleeper(0, 0, 9);
    fresh.clocks(1, 3, 0);
    fresh.house();
    x.sleeper(0, 0, 9);
    x.clocks(1, 3, 0);
    x.house();
    due("but for those it is a new one", x.digest(), fresh.digest());
    due("the text stays and is read again", x.read(), 1);
    due("nothing to undo", x.undo(), -3);
    due("the images stay", x.from(0), 1);
    due("where a pupil was in it", x.where(1), 7);
    due("one that was not kept is not", x.from(1), -3);
  }
}
