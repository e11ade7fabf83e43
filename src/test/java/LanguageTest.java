import java.lang.reflect.Constructor;
import java.lang.reflect.Field;
import java.lang.reflect.Method;
import java.lang.reflect.Modifier;
import java.nio.charset.StandardCharsets;
import java.nio.file.Files;
import java.nio.file.Path;
import java.util.ArrayList;
import java.util.Arrays;
import java.util.List;
import java.util.Set;
import java.util.TreeSet;
import java.util.regex.Matcher;
import java.util.regex.Pattern;

// The rules of LANGUAGE.md that can be seen from the class and from its text; the text's path is the argument.
public final class LanguageTest {
  private static final String[] FACE = {
    "int comes(int)", "int goes(int)", "int past(int, int, int)", "int of(int, int)", "int neutral(int)", "int rules(int)",
    "int frees(int)", "int duty(int, int)", "int calendar()", "int dutyOf(int, int)", "int stands(int)", "int may(int, int)",
    "int dislike(int, int, int)", "int hold(int, int)", "int open(int)", "int fill(int)", "int load(int, int)",
    "int lesser(int, int)", "int eases(int)", "int disliked()", "int ring(int)", "int turn(int)", "int close()",
    "int audit(int, int)", "int next(int, int)", "int near()", "int heaviest()", "int feed(int)", "int clear()", "int pick()",
    "int openAll()", "int judge()", "int roster()", "int spell()", "int paper(int)", "int told(int)", "int list(int, int)",
    "int set(int, int, int)", "long get(int, int)", "int lay(int, int)", "int image()", "int undo()"};
  private static final String[] WORDS_OUT = {"throw", "throws", "try", "catch", "finally", "synchronized", "assert", "import", "package",
    "Object", "Exception", "System", "Thread", "Random", "float", "double", "native", "volatile", "transient", "yield"};
  private static final int MOST_LINES = 60, MOST_FIELDS = 20, MOST_CLASSES = 12, MOST_PARAMETERS = 7;

  public static void main(String[] args) throws Exception {
    Path path = Path.of(args.length > 0 ? args[0] : "src/main/java/FairTurns.java");
    face();
    classesInside();
    text(Files.readString(path, StandardCharsets.ISO_8859_1));
    Due.close("LanguageTest");
  }

  private static void holds(String what, boolean so) {
    Due.is(what, so ? 1 : 0, 1);
  }

  private static void face() {
    Class<?> face = FairTurns.class;
    holds("the class is public and final", Modifier.isPublic(face.getModifiers()) && Modifier.isFinal(face.getModifiers()));
    Set<String> due = new TreeSet<>(Arrays.asList(FACE));
    Set<String> publicNames = new TreeSet<>();
    Set<String> found = new TreeSet<>();
    for (Method m : face.getDeclaredMethods()) {
      if (Modifier.isPrivate(m.getModifiers())) continue;
      holds(m + " is public, not static", Modifier.isPublic(m.getModifiers()) && !Modifier.isStatic(m.getModifiers()));
      publicNames.add(m.getName());
      StringBuilder text = new StringBuilder(m.getReturnType() + " " + m.getName() + "(");
      for (Class<?> type : m.getParameterTypes()) text.append(text.charAt(text.length() - 1) == '(' ? "" : ", ").append(type);
      found.add(text + ")");
    }
    holds("the methods are those of the document: " + found, found.equals(due));
    Constructor<?>[] made = face.getDeclaredConstructors();
    holds("one public constructor without arguments", made.length == 1 && Modifier.isPublic(made[0].getModifiers()) && made[0].getParameterCount() == 0);
    Set<String> constants = new TreeSet<>();
    for (Field f : face.getDeclaredFields()) if (!Modifier.isPrivate(f.getModifiers())) constants.add(f.getName());
    holds("the constants are those of the document: " + constants, constants.equals(new TreeSet<>(List.of("NONE", "BAD", "STATE", "FULL", "NOT"))));
    List<Class<?>> all = new ArrayList<>(List.of(face.getDeclaredClasses()));
    all.add(face);
    for (Class<?> each : all) {
      for (Method m : each.getDeclaredMethods()) {
        holds(m + " has at most seven parameters", m.getParameterCount() <= MOST_PARAMETERS);
        if (Modifier.isPrivate(m.getModifiers())) holds(m + " bears no public name", !publicNames.contains(m.getName()));
      }
    }
  }

  private static void classesInside() {
    Class<?>[] inside = FairTurns.class.getDeclaredClasses();
    holds("some twelve classes", inside.length + 1 <= MOST_CLASSES);
    for (Class<?> c : inside) {
      int mods = c.getModifiers();
      holds(c + " is static, not public", Modifier.isStatic(mods) && !Modifier.isPublic(mods) && !Modifier.isProtected(mods));
      holds(c + " has none inside", c.getDeclaredClasses().length == 0);
      int own = 0;
      for (Field f : c.getDeclaredFields()) {
        if (Modifier.isStatic(f.getModifiers())) holds(f + " is final", Modifier.isFinal(f.getModifiers()));
        else own++;
      }
      holds(c + " has some twenty fields", own <= MOST_FIELDS);
    }
  }

  // Without comments, and with texts and signs blanked, so that only the program's words are left.
  private static String bare(String text) {
    Matcher m = Pattern.compile("//[^\\n]*|\"[^\"\\n]*\"|'[^'\\n]'").matcher(text);
    return m.replaceAll(r -> r.group().startsWith("//") ? "" : r.group().startsWith("\"") ? "TEXT" : "0");
  }

  private static void text(String text) {
    for (int i = 0; i < text.length(); i++) {
      if (text.charAt(i) > 126) Due.is("a sign above 126 at " + i, text.charAt(i), 0);
    }
    String bare = bare(text);
    for (String word : WORDS_OUT) holds("no " + word, !Pattern.compile("\\b" + word + "\\b").matcher(bare).find());
    holds("no lambda and no method reference", !bare.contains("->") && !bare.contains("::"));
    holds("no texts joined by +", !Pattern.compile("TEXT\\s*\\+|\\+\\s*TEXT").matcher(bare).find());
    holds("no name whose end is Exact", !Pattern.compile("\\w+Exact\\b").matcher(bare).find());
    holds("no object made in a method", !madeInMethods(bare));
    methodsAreShort(bare);
  }

  // Rows are made in fields and constructors alone, so that no run of calls fills the room.
  private static boolean madeInMethods(String bare) {
    boolean inMethod = false;
    for (String line : bare.split("\n")) {
      if (line.matches(" {2,4}\\S.*\\) \\{")) inMethod = !line.matches(" {2,4}(public )?[A-Z]\\w*\\(.*");
      if (line.matches(" {2,4}\\}")) inMethod = false;
      if (inMethod && line.matches(".*\\bnew\\b.*")) return true;
    }
    return false;
  }

  private static void methodsAreShort(String bare) {
    int begin = -1;
    String head = "";
    String[] lines = bare.split("\n");
    for (int i = 0; i < lines.length; i++) {
      if (lines[i].matches(" {2,4}\\S.*\\) \\{")) {
        begin = i;
        head = lines[i].strip();
      }
      if (begin >= 0 && lines[i].matches(" {2,4}\\}")) {
        holds(head + " is short", i - begin + 1 <= MOST_LINES);
        begin = -1;
      }
    }
  }
}
