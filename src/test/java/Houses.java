import java.util.ArrayList;
import java.util.List;

/** Houses for tests, and all that can be seen of one. */
final class Houses {
  private Houses() {}

  static int read(PutBack x, String text) {
    type(x, text);
    return x.read();
  }

  static void type(PutBack x, String text) {
    x.clear();
    for (int i = 0; i < text.length(); i++) {
      x.type(text.charAt(i));
    }
  }

  static PutBack told(String text) {
    PutBack x = new PutBack();
    int answer = read(x, text);
    if (answer < 0) {
      throw new IllegalArgumentException(text + " answered " + answer);
    }
    return x;
  }

  /** All rooms in a row from the door on, each stair with the same creak. */
  static PutBack row(int creak) {
    PutBack x = new PutBack();
    for (int a = 0; a < 7; a++) {
      x.stair(a, a + 1, creak);
    }
    return x;
  }

  /** Something of everything: image 0 is kept, image 1 is not; calls were refused by each reason. */
  static PutBack busy() {
    PutBack x = told("house;stair 0 1 9;stair 1 2 1;stair 0 7 0;sleeper 0 1 0;sleeper 5 6 3;thing 2 0 1;thing 1;");
    x.step(1, 7);
    x.heard(1, 3, 0);
    x.image(0);
    x.step(0, 1);
    x.step(0, 2);
    x.waits(2);
    x.undo();
    x.waits(3);
    x.heard(0, 1, 1);
    x.clocks(5, 3, 1);
    x.owner(0, 0);
    x.owner(0, 2);
    x.owner(0, 1);
    x.step(2, 5);
    x.from(1);
    x.where(3);
    x.where(4);
    x.where(5);
    return x;
  }

  /** All but status: what is now, what may be undone, both images, the text. It uses the object up. */
  static List<Long> picture(PutBack x) {
    List<Long> all = new ArrayList<>();
    addAndUndo(x, all);
    for (int i = 0; i < 2; i++) {
      all.add((long) x.from(i));
      addAndUndo(x, all);
    }
    all.add((long) x.read());
    all.add(x.digest());
    return all;
  }

  private static void addAndUndo(PutBack x, List<Long> all) {
    all.add(x.digest());
    // How far rooms are stands in no digest.
    for (int a = 0; a < 8; a++) {
      for (int b = a + 1; b < 8; b++) {
        all.add((long) x.far(a, b));
      }
    }
    for (int i = 0; i < 10; i++) {
      all.add((long) x.undo());
      all.add(x.digest());
    }
  }

  /** The least noise of 0 .. 30 in a room that wakes sleeper 0; 31, if none does. */
  static int leastNoise(PutBack x, int room, int minute) {
    int n = 0;
    while (n <= 30 && (x.wakes(n, room, minute) & 1) == 0) {
      n++;
    }
    return n;
  }
}
