import java.lang.reflect.Constructor;
import java.lang.reflect.Field;
import java.lang.reflect.Method;
import java.lang.reflect.Modifier;
import java.nio.file.Files;
import java.nio.file.Path;
import java.util.ArrayList;
import java.util.Arrays;
import java.util.HashSet;
import java.util.List;
import java.util.Set;
import java.util.TreeSet;
import java.util.regex.Matcher;
import java.util.regex.Pattern;

/** What of LANGUAGE.md can be seen from the source's words and from the class's own members. */
public final class LanguageTest {
  private static final String SOURCE = "src/main/java/PutBack.java";
  private static final String[] FACE = {
    "int house()", "int stair(int,int,int)", "int sleeper(int,int,int)", "int thing(int)", "int owner(int,int)",
    "int type(int)", "int clear()", "int read()", "int step(int,int)", "int waits(int)", "int undo()",
    "int of(int,int)", "int where(int)", "int far(int,int)", "int wakes(int,int,int)", "int loud(int,int)",
    "int way(int,int,int,int)", "int softest(int,int)", "int schedule(int,int)", "int owed(int)", "int took(int)",
    "int canNot()", "int heard(int,int,int)", "int forget()", "int may(int)", "long ways()", "int listen(int)",
    "int clocks(int,int,int)", "int nights(int,int)", "long part(int)", "int image(int)", "int from(int)",
    "int status(int)", "int count(int)", "long digest()"
  };
  private static final String[] FORBIDDEN = {
    "\\bthrows?\\b", "\\btry\\b", "\\bcatch\\b", "\\bfinally\\b", "\\bsynchronized\\b", "\\bassert\\b", "\\bimport\\b",
    "\\bpackage\\b", "->", "::", "@", "\\bstatic\\s*\\{", "Exact\\b", "\\bObject\\b", "\\bgetClass\\b", "\\bhashCode\\b",
    "\\btoString\\b", "\\bThread\\b", "\\bRandom\\b", "\\bvar\\b", "\\bdouble\\b", "\\bfloat\\b", "\\bnative\\b", "\\bvolatile\\b",
    "\\bSystem\\.(?!arraycopy\\b)", "\\bMath\\.(?!min\\b|max\\b)", "\\bInteger\\.(?!bitCount\\b)", "\\bLong\\.",
    "\\bwhile\\s*\\(\\s*true", "\\bfor\\s*\\(\\s*;\\s*;"
  };
  private static int wrong = 0;

  private static void check(boolean fine, String what) {
    if (!fine) {
      wrong++;
      System.out.println(what);
    }
  }

  private static void checkWords(String source) {
    String code = source.replaceAll("(?s)/\\*.*?\\*/", " ").replaceAll("//[^\n]*", " ").replaceAll("\"[^\"]*\"", "\"\"");
    for (String pattern : FORBIDDEN) {
      Matcher m = Pattern.compile(pattern).matcher(code);
      check(!m.find(), "the source has a word that LANGUAGE.md leaves out: " + pattern);
    }
    for (int i = 0; i < source.length(); i++) {
      check(source.charAt(i) < 127, "a sign above 126 at " + i);
    }
    checkLengths(code);
  }

  /** Methods of nested classes stand four deep, those of the class itself two. */
  private static void checkLengths(String code) {
    String[] lines = code.split("\n", -1);
    for (int i = 0; i < lines.length; i++) {
      Matcher m = Pattern.compile("^( {2}| {4})(?!\\s)(?!.*\\bclass\\b).*\\) \\{$").matcher(lines[i]);
      if (m.find()) {
        int end = i;
        while (end < lines.length && !lines[end].equals(m.group(1) + "}")) {
          end++;
        }
        check(end - i <= 60, "a long method: " + lines[i]);
      }
      check(lines[i].length() <= 110, "a long line: " + lines[i]);
    }
  }

  private static String written(Method m) {
    StringBuilder text = new StringBuilder(m.getReturnType().getName()).append(' ').append(m.getName()).append('(');
    for (int i = 0; i < m.getParameterCount(); i++) {
      text.append(i == 0 ? "" : ",").append(m.getParameterTypes()[i].getName());
    }
    return text.append(')').toString();
  }

  private static void checkFace() {
    Set<String> shown = new TreeSet<>();
    for (Method m : PutBack.class.getDeclaredMethods()) {
      if (!Modifier.isPrivate(m.getModifiers())) {
        check(Modifier.isPublic(m.getModifiers()) && !Modifier.isStatic(m.getModifiers()), "not public: " + m);
        shown.add(written(m));
      }
    }
    check(shown.equals(new TreeSet<>(Arrays.asList(FACE))), "the face is " + shown);
    check(Modifier.isPublic(PutBack.class.getModifiers()) && Modifier.isFinal(PutBack.class.getModifiers()), "not a public final class");
    Constructor<?>[] constructors = PutBack.class.getDeclaredConstructors();
    check(constructors.length == 1 && Modifier.isPublic(constructors[0].getModifiers()) && constructors[0].getParameterCount() == 0, "constructors");
    Set<String> constants = new TreeSet<>();
    for (Field f : PutBack.class.getDeclaredFields()) {
      if (!Modifier.isPrivate(f.getModifiers())) {
        constants.add(f.getName());
      }
    }
    check(constants.equals(new TreeSet<>(List.of("NONE", "BAD", "NO", "FULL"))), "the constants are " + constants);
  }

  private static void checkClasses() {
    Set<String> face = new HashSet<>();
    for (String f : FACE) {
      face.add(f.substring(f.indexOf(' ') + 1, f.indexOf('(')));
    }
    List<Class<?>> classes = new ArrayList<>(List.of(PutBack.class.getDeclaredClasses()));
    check(classes.size() <= 12, "there are " + classes.size() + " classes inside");
    for (Class<?> c : classes) {
      check(Modifier.isStatic(c.getModifiers()), "not static: " + c);
      for (Method m : c.getDeclaredMethods()) {
        check(!face.contains(m.getName()), "a name of the face again: " + m);
      }
    }
    classes.add(PutBack.class);
    for (Class<?> c : classes) {
      int fields = 0;
      for (Field f : c.getDeclaredFields()) {
        boolean constant = Modifier.isStatic(f.getModifiers());
        fields += constant ? 0 : 1;
        check(!constant || Modifier.isFinal(f.getModifiers()), "a static field that is not final: " + f);
      }
      check(fields <= 20, "many fields: " + c);
      for (Method m : c.getDeclaredMethods()) {
        check(m.getParameterCount() <= 7, "many parameters: " + m);
        check(!Modifier.isPrivate(m.getModifiers()) || !face.contains(m.getName()), "a private one with a name of the face: " + m);
      }
    }
  }

  public static void main(String[] args) throws Exception {
    checkWords(Files.readString(Path.of(SOURCE)));
    checkFace();
    checkClasses();
    for (String fault : RuleScan.faultsOf(SOURCE)) {
      check(false, fault);
    }
    System.out.println(wrong == 0 ? "the language is kept to" : wrong + " rules are not kept to");
    if (wrong != 0) {
      System.exit(1);
    }
  }
}
