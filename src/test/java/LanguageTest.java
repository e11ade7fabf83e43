import java.io.IOException;
import java.nio.charset.StandardCharsets;
import java.nio.file.Files;
import java.nio.file.Path;
import java.util.List;

// The program keeps to ../shared/LANGUAGE.md as far as its tree shows; the text's path is the argument.
public final class LanguageTest {
  public static void main(String[] args) throws IOException {
    String program = Files.readString(Path.of(args.length > 0 ? args[0] : "src/main/java/FairTurns.java"), StandardCharsets.ISO_8859_1);
    theProgram(program);
    whatIsSeen();
    Due.close("LanguageTest");
  }

  private static void theProgram(String program) throws IOException {
    Due.by("LANGUAGE.md");
    for (String broken : LanguageRules.brokenBy(program)) Due.is(broken, 0, 1);
    Due.holds("the program is read", program.contains("public final class FairTurns {"));
    for (int i = 0; i < program.length(); i++) {
      char sign = program.charAt(i);
      if (sign > 126 || sign < 32 && sign != '\n') Due.is("rule 4: the sign at " + i, sign, 0);
    }
  }

  // What breaks a rule is seen: each program breaks one.
  private static void whatIsSeen() throws IOException {
    Due.by("LANGUAGE.md: a program that breaks the rule");
    seen(1, "int seen() { return 0; }");
    seen(1, "public int a() { return 0; } static final class In { private int a() { return 0; } }");
    seen(1, "public static final class In { }");
    seen(2, "private final class In { }");
    seen(2, "private interface I { int a(); } private I i = () -> 1;");
    seen(2, "private interface I { int a(); } private int one() { return 1; } private I i = this::one;");
    seen(2, "private interface I { int a(); } private I i = new I() { public int a() { return 1; } };");
    seen(2, "public int a() { final class In { } return 1; }");
    seen(3, "private Object one = null;");
    seen(3, "private boolean[][] two = null;");
    seen(3, "private int[][][] three = null;");
    seen(4, "public int a() { return Math.addExact(1, 2); }");
    seen(4, "public int a() { return \"a\".hashCode(); }");
    seen(4, "public long a() { return System.nanoTime(); }");
    seen(5, "private static int count = 0;");
    seen(5, "private static final int[] ROW = new int[3];");
    seen(5, "private static final boolean[] ROW = {true};");
    seen(5, "private static final int ONE; static { ONE = 1; }");
    seen(6, "public int a() { throw null; }");
    seen(6, "public int a() { try { return 1; } finally { } }");
    seen(6, "public int a() { synchronized (this) { return 1; } }");
    seen(6, "public int a(String s, String t) { return s == t ? 1 : 0; }");
    seen(6, "public boolean equals(Object other) { return false; }");
    seen(8, "public int a(int n) { return n > 0 ? a(n - 1) : 0; }");
    seen(8, "private int a(int n) { return n > 0 ? a(n - 1) : 0; }");
    seen(8, "private int a() { return b(); } private int b() { return a(); }");
    seen(10, "public int a(String s) { s = s + s; return 1; }");
    seen(10, "public int a(String s) { s += s; return 1; }");
    seen(11, "public int a(int b, int c, int d, int e, int f, int g, int h, int i) { return 1; }");
    seen(11, "public int a() {" + "\n".repeat(60) + "return 1; }");
    seen(11, deep(9));
    seen(11, fields(21));
    seen(11, classes(12));
    seen(12, "public int a() { int[] row = {1}; return row[0]; }");
    String[] fine = {deep(8), fields(20), classes(11), "private static int a(int n) { return n > 0 ? a(n - 1) : 0; }",
        "private int[][] rows = new int[2][2]; private static final char[] ROW = {'a'}; public int a(String s) { return s.length(); }",
        "private int a(int n) { return b(n); } private int b(int n) { return n > 0 ? a(n - 1) : 0; }"};
    for (String members : fine) Due.is("rules broken by " + members, brokenBy(members).size(), 0);
  }

  private static List<String> brokenBy(String members) throws IOException {
    return LanguageRules.brokenBy("public final class FairTurns { " + members + " }");
  }

  private static void seen(int rule, String members) throws IOException {
    boolean isSeen = false;
    for (String broken : brokenBy(members)) isSeen = isSeen || broken.startsWith("rule " + rule + ":");
    Due.holds("rule " + rule + " is broken by " + members, isSeen);
  }

  // A public method that so many stand open with, itself among them.
  private static String deep(int calls) {
    StringBuilder text = new StringBuilder("public int a1() { return a2(); }");
    for (int i = 2; i < calls; i++) text.append("private int a").append(i).append("() { return a").append(i + 1).append("(); }");
    return text.append("private int a").append(calls).append("() { return 0; }").toString();
  }

  private static String fields(int count) {
    StringBuilder text = new StringBuilder();
    for (int i = 0; i < count; i++) text.append("private int f").append(i).append(';');
    return text.toString();
  }

  private static String classes(int count) {
    StringBuilder text = new StringBuilder();
    for (int i = 0; i < count; i++) text.append("private static final class C").append(i).append(" { }");
    return text.toString();
  }
}
