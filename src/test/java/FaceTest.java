import java.lang.reflect.Constructor;
import java.lang.reflect.Field;
import java.lang.reflect.Method;
import java.lang.reflect.Modifier;
import java.nio.charset.StandardCharsets;
import java.nio.file.Files;
import java.nio.file.Path;
import java.util.List;
import java.util.Set;
import java.util.TreeSet;
import java.util.regex.Matcher;
import java.util.regex.Pattern;

// The class has the public face that the document's block of Java tells, and nothing beside it.
public final class FaceTest {
  private static final Class<?> FACE = FairTurns.class;
  private static final Pattern METHOD = Pattern.compile("public (\\w+) (\\w+)\\((.*)\\);");
  private static final Pattern CONSTANTS = Pattern.compile("public static final int (.*);");

  public static void main(String[] args) throws Exception {
    String source = args.length > 0 ? args[0] : "src/main/java/FairTurns.java";
    List<String> due = new Document(args.length > 1 ? args[1] : "../shared/DOC.md").face();
    Due.by("The public face");
    theClass(due);
    theConstants(due);
    theConstructor(due);
    theMethods(due);
    nothingInside();
    theNamesOfWhatIsTaken(due, Files.readString(Path.of(source), StandardCharsets.ISO_8859_1));
    eachLineIsRead(due);
    Due.close("FaceTest");
  }

  private static void theClass(List<String> due) {
    Due.holds("the document tells the class: " + due.get(0), due.get(0).equals("public final class FairTurns {"));
    Due.holds("the class is public and final and nothing else", FACE.getModifiers() == (Modifier.PUBLIC | Modifier.FINAL));
    Due.holds("the class is FairTurns, in no package", FACE.getName().equals("FairTurns") && FACE.getPackageName().isEmpty());
    Due.holds("the class extends none", FACE.getSuperclass() == Object.class);
    Due.is("interfaces", FACE.getInterfaces().length, 0);
    Due.is("parameters of the type", FACE.getTypeParameters().length, 0);
    Due.is("annotations", FACE.getAnnotations().length, 0);
  }

  private static void theConstants(List<String> due) throws IllegalAccessException {
    Set<String> told = new TreeSet<>();
    for (String line : due) {
      Matcher m = CONSTANTS.matcher(line);
      if (m.matches()) told.addAll(List.of(m.group(1).split(", ")));
    }
    Due.is("constants that the document tells", told.size(), 5);
    Set<String> found = new TreeSet<>();
    for (Field f : FACE.getDeclaredFields()) {
      if (Modifier.isPrivate(f.getModifiers())) continue;
      boolean isConstant = f.getModifiers() == (Modifier.PUBLIC | Modifier.STATIC | Modifier.FINAL) && f.getType() == int.class;
      Due.holds(f + " is a constant", isConstant);
      if (isConstant) found.add(f.getName() + " = " + f.getInt(null));
    }
    Due.holds("the constants are " + told + ": " + found, found.equals(told));
  }

  private static void theConstructor(List<String> due) {
    Due.holds("the document tells the constructor", due.contains("public FairTurns();"));
    Constructor<?>[] all = FACE.getDeclaredConstructors();
    Due.is("constructors", all.length, 1);
    Due.is("modifiers of the constructor", all[0].getModifiers(), Modifier.PUBLIC);
    Due.is("parameters of the constructor", all[0].getParameterCount(), 0);
    Due.is("exceptions of the constructor", all[0].getExceptionTypes().length, 0);
  }

  private static void theMethods(List<String> due) {
    Set<String> told = new TreeSet<>();
    for (String line : due) {
      Matcher m = METHOD.matcher(line);
      if (m.matches()) told.add(m.group(1) + " " + m.group(2) + "(" + m.group(3).replaceAll("(\\w+) \\w+", "$1") + ")");
    }
    Due.is("methods that the document tells", told.size(), 42);
    Set<String> found = new TreeSet<>();
    Set<String> privates = new TreeSet<>();
    Set<String> names = new TreeSet<>();
    for (Method m : FACE.getDeclaredMethods()) {
      if (Modifier.isPrivate(m.getModifiers())) {
        privates.add(m.getName());
        continue;
      }
      Due.is("modifiers of " + m, m.getModifiers(), Modifier.PUBLIC);
      Due.is("exceptions of " + m, m.getExceptionTypes().length, 0);
      Due.is("annotations of " + m, m.getAnnotations().length, 0);
      names.add(m.getName());
      found.add(signature(m));
    }
    Due.holds("the methods are " + told + ": " + found, found.equals(told));
    Due.is("public methods, those of every object among them", FACE.getMethods().length, told.size() + Object.class.getMethods().length);
    privates.retainAll(names);
    Due.holds("no private method bears the name of a public one: " + privates, privates.isEmpty());
  }

  private static String signature(Method m) {
    StringBuilder text = new StringBuilder();
    for (Class<?> type : m.getParameterTypes()) text.append(text.length() == 0 ? "" : ", ").append(type);
    return m.getReturnType() + " " + m.getName() + "(" + text + ")";
  }

  private static void nothingInside() {
    for (Class<?> c : FACE.getDeclaredClasses()) {
      boolean isSeen = Modifier.isPublic(c.getModifiers()) || Modifier.isProtected(c.getModifiers());
      Due.holds(c + " inside is static, and private or package-visible", Modifier.isStatic(c.getModifiers()) && !isSeen);
    }
  }

  // What is taken bears the document's name in the class, too.
  private static void theNamesOfWhatIsTaken(List<String> due, String source) {
    for (String line : due) {
      if (METHOD.matcher(line).matches()) Due.holds(line, source.contains("  " + line.replace(";", " {") + "\n"));
    }
  }

  private static void eachLineIsRead(List<String> due) {
    for (String line : due) {
      boolean isRead = METHOD.matcher(line).matches() || CONSTANTS.matcher(line).matches()
          || List.of("public final class FairTurns {", "public FairTurns();", "}").contains(line);
      Due.holds("a line of the face that is read: " + line, isRead);
    }
  }
}
