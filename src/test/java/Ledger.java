import java.util.BitSet;

/** Keeps which sentence of the document is asked about, and which answers are not as it wants them. */
final class Ledger {
  private final String document;
  private final BitSet quoted = new BitSet();
  private String sentence = "";
  private int checks = 1;
  private int sentences = 0;
  private int wrong = 0;

  Ledger(String text) {
    document = bare(text);
  }

  /** The words that promise something, without headings, marks of code, the face and the calls' heads. */
  private static String bare(String text) {
    int begin = text.indexOf("======== 1");
    int end = text.indexOf("## Not promised");
    String words = begin < 0 || end < begin ? text : text.substring(begin, end);
    return words
        .replaceAll("(?s)```java.*?```", "")
        .replaceAll("(?m)^##.*$", "")
        .replaceAll("(?m)^Ahead of the calls.*$", "")
        .replaceAll("(?m)^`[^`]*`:", "")
        .replaceAll("```(text)?", "")
        .replaceAll("======== \\d", "")
        .replaceAll("\\s+", " ");
  }

  /** The words of the document for which the checks behind this stand. */
  void says(String words) {
    noEmptySentence();
    sentence = words;
    sentences++;
    checks = 0;
    int place = document.indexOf(words);
    if (place < 0) {
      fail("these words do not stand in the document");
    }
    while (place >= 0) {
      quoted.set(place, place + words.length());
      place = document.indexOf(words, place + 1);
    }
  }

  void due(String what, long got, long want) {
    checks++;
    if (got != want) {
      fail(what + " answered " + got + ", due is " + want);
    }
  }

  void holds(String what, boolean so) {
    checks++;
    if (!so) {
      fail(what + " does not hold");
    }
  }

  private void noEmptySentence() {
    if (checks == 0) {
      fail("no check stands behind these words");
    }
  }

  private void fail(String what) {
    wrong++;
    System.out.println("'" + sentence + "': " + what);
  }

  /** Words of the document that no test has beside it are told, too. */
  void end() {
    noEmptySentence();
    int place = quoted.nextClearBit(0);
    while (place < document.length()) {
      int next = quoted.nextSetBit(place);
      int end = next < 0 ? document.length() : next;
      String left = document.substring(place, end);
      if (left.matches("(?s).*[A-Za-z0-9].*")) {
        wrong++;
        System.out.println("no test stands beside these words: " + left);
      }
      place = quoted.nextClearBit(end);
    }
    System.out.println(wrong == 0 ? sentences + " sentences hold" : wrong + " answers are not as due");
    if (wrong != 0) {
      System.exit(1);
    }
  }
}
