import com.sun.source.tree.AssertTree;
import com.sun.source.tree.BinaryTree;
import com.sun.source.tree.BlockTree;
import com.sun.source.tree.ClassTree;
import com.sun.source.tree.CompilationUnitTree;
import com.sun.source.tree.CompoundAssignmentTree;
import com.sun.source.tree.ImportTree;
import com.sun.source.tree.LambdaExpressionTree;
import com.sun.source.tree.LineMap;
import com.sun.source.tree.MemberReferenceTree;
import com.sun.source.tree.MethodInvocationTree;
import com.sun.source.tree.MethodTree;
import com.sun.source.tree.NewArrayTree;
import com.sun.source.tree.NewClassTree;
import com.sun.source.tree.SynchronizedTree;
import com.sun.source.tree.ThrowTree;
import com.sun.source.tree.Tree;
import com.sun.source.tree.TryTree;
import com.sun.source.tree.VariableTree;
import com.sun.source.util.JavacTask;
import com.sun.source.util.TreePath;
import com.sun.source.util.TreePathScanner;
import com.sun.source.util.Trees;
import java.io.IOException;
import java.net.URI;
import java.util.ArrayList;
import java.util.HashMap;
import java.util.HashSet;
import java.util.LinkedHashMap;
import java.util.LinkedHashSet;
import java.util.List;
import java.util.Map;
import java.util.Set;
import javax.lang.model.element.Element;
import javax.lang.model.element.ElementKind;
import javax.lang.model.element.ExecutableElement;
import javax.lang.model.element.Modifier;
import javax.lang.model.type.TypeMirror;
import javax.tools.JavaCompiler;
import javax.tools.JavaFileObject;
import javax.tools.SimpleJavaFileObject;
import javax.tools.ToolProvider;

// What the compiler's own tree of a program shows against the rules of ../shared/LANGUAGE.md, and against one of this
// project's own: objects and arrays are made in fields and constructors alone.
final class LanguageRules extends TreePathScanner<Void, Void> {
  private static final int MOST_LINES = 60, MOST_FIELDS = 20, MOST_CLASSES = 12, MOST_PARAMETERS = 7, MOST_CALLS = 8;
  private static final Set<String> LIBRARY = Set.of("String.length", "String.charAt", "String.isEmpty", "String.equals", "String.indexOf",
      "String.substring", "String.toCharArray", "StringBuilder.append", "StringBuilder.charAt", "StringBuilder.setCharAt",
      "StringBuilder.setLength", "StringBuilder.deleteCharAt", "StringBuilder.reverse", "StringBuilder.length", "StringBuilder.toString",
      "Math.max", "Math.min", "Math.abs", "Math.floorDiv", "Math.floorMod", "Integer.compare", "Integer.bitCount", "Integer.max",
      "Integer.min", "Long.compare", "Long.bitCount", "Long.max", "Long.min", "System.arraycopy", "Arrays.copyOf", "Arrays.copyOfRange",
      "Arrays.fill", "Object.<init>");
  private static final Set<String> PLAIN = Set.of("int", "long", "short", "byte", "char", "boolean", "double", "float");
  private static final Set<String> CONSTANTS = Set.of("int", "long", "boolean", "char", "java.lang.String", "int[]", "long[]", "char[]", "byte[]");

  private final List<String> against = new ArrayList<>();
  private final Map<ExecutableElement, Set<ExecutableElement>> calls = new LinkedHashMap<>();
  private final Map<ExecutableElement, Integer> depths = new HashMap<>();
  private final Set<String> publicNames = new HashSet<>();
  private final Set<String> privateNames = new LinkedHashSet<>();
  private final Set<String> ownClasses = new HashSet<>();
  private final CompilationUnitTree unit;
  private final Trees trees;
  private final LineMap lines;

  private LanguageRules(CompilationUnitTree ofUnit, Trees ofTrees) {
    unit = ofUnit;
    trees = ofTrees;
    lines = ofUnit.getLineMap();
  }

  // The rules that a program breaks, each with its line.
  static List<String> brokenBy(String program) throws IOException {
    JavaCompiler compiler = ToolProvider.getSystemJavaCompiler();
    JavaFileObject file = new SimpleJavaFileObject(URI.create("string:///FairTurns.java"), JavaFileObject.Kind.SOURCE) {
      @Override
      public CharSequence getCharContent(boolean ignoreErrors) {
        return program;
      }
    };
    StringBuilder errors = new StringBuilder();
    JavacTask task = (JavacTask) compiler.getTask(null, null, d -> errors.append(d).append('\n'), List.of("-proc:none"), null, List.of(file));
    CompilationUnitTree unit = task.parse().iterator().next();
    task.analyze();
    if (errors.length() > 0) throw new IllegalStateException(errors.toString());
    LanguageRules rules = new LanguageRules(unit, Trees.instance(task));
    rules.noteClasses(unit.getTypeDecls());
    rules.scan(unit, null);
    rules.theCalls();
    for (String name : rules.privateNames) {
      if (rules.publicNames.contains(name)) rules.against.add("rule 1: a private method bears the public name " + name);
    }
    if (rules.ownClasses.size() > MOST_CLASSES) rules.against.add("rule 11: classes: " + rules.ownClasses.size());
    return rules.against;
  }

  private void noteClasses(List<? extends Tree> trees) {
    for (Tree tree : trees) {
      if (!(tree instanceof ClassTree)) continue;
      ownClasses.add(((ClassTree) tree).getSimpleName().toString());
      noteClasses(((ClassTree) tree).getMembers());
    }
  }

  private void broken(int rule, Tree tree, String what) {
    long line = lines.getLineNumber(trees.getSourcePositions().getStartPosition(unit, tree));
    against.add("rule " + rule + ": line " + line + ": " + what);
  }

  private boolean isOwn(Element element) {
    for (Element each = element; each != null; each = each.getEnclosingElement()) {
      if (ownClasses.contains(each.getSimpleName().toString()) && each.getKind().isClass()) return true;
    }
    return false;
  }

  private Tree parent() {
    return getCurrentPath().getParentPath().getLeaf();
  }

  private MethodTree methodAround() {
    for (TreePath path = getCurrentPath(); path != null; path = path.getParentPath()) {
      if (path.getLeaf() instanceof MethodTree) return (MethodTree) path.getLeaf();
    }
    return null;
  }

  // ---- rules 1, 2 and 11: classes and their members

  @Override
  public Void visitCompilationUnit(CompilationUnitTree tree, Void none) {
    if (tree.getPackageName() != null) broken(0, tree, "a package");
    if (tree.getTypeDecls().size() != 1) broken(1, tree, "more than one class");
    return super.visitCompilationUnit(tree, none);
  }

  @Override
  public Void visitImport(ImportTree tree, Void none) {
    Set<String> may = Set.of("java.util.ArrayList", "java.util.List", "java.util.Arrays", "java.util.Iterator");
    if (!may.contains(tree.getQualifiedIdentifier().toString())) broken(4, tree, "import of " + tree.getQualifiedIdentifier());
    return null;
  }

  @Override
  public Void visitClass(ClassTree tree, Void none) {
    Set<Modifier> modifiers = tree.getModifiers().getFlags();
    boolean isFace = parent() instanceof CompilationUnitTree;
    if (isFace) {
      if (!modifiers.equals(Set.of(Modifier.PUBLIC, Modifier.FINAL))) broken(1, tree, "modifiers of the class");
    } else {
      boolean isInClass = parent() instanceof ClassTree;
      boolean isSeen = modifiers.contains(Modifier.PUBLIC) || modifiers.contains(Modifier.PROTECTED);
      boolean isStatic = modifiers.contains(Modifier.STATIC) || tree.getKind() == Tree.Kind.ENUM || tree.getKind() == Tree.Kind.RECORD || tree.getKind() == Tree.Kind.INTERFACE;
      if (!isInClass || !isStatic) broken(2, tree, "a class inside that isn't static: " + tree.getSimpleName());
      if (isSeen) broken(1, tree, "a public class inside: " + tree.getSimpleName());
    }
    int fields = 0;
    for (Tree member : tree.getMembers()) {
      if (member instanceof VariableTree && !((VariableTree) member).getModifiers().getFlags().contains(Modifier.STATIC)) fields++;
      if (member instanceof BlockTree) broken(5, member, "an initialiser block");
      if (isFace) ofTheFace(member);
    }
    if (fields > MOST_FIELDS) broken(11, tree, "fields: " + fields);
    return super.visitClass(tree, none);
  }

  private void ofTheFace(Tree member) {
    Set<Modifier> flags = member instanceof MethodTree ? ((MethodTree) member).getModifiers().getFlags()
        : member instanceof VariableTree ? ((VariableTree) member).getModifiers().getFlags() : Set.of(Modifier.PRIVATE);
    if (!flags.contains(Modifier.PUBLIC) && !flags.contains(Modifier.PRIVATE)) broken(1, member, "a member that is neither public nor private");
    if (member instanceof MethodTree && flags.contains(Modifier.PUBLIC)) publicNames.add(((MethodTree) member).getName().toString());
  }

  @Override
  public Void visitMethod(MethodTree tree, Void none) {
    String name = tree.getName().toString();
    long first = lines.getLineNumber(trees.getSourcePositions().getStartPosition(unit, tree));
    long last = lines.getLineNumber(trees.getSourcePositions().getEndPosition(unit, tree));
    if (last - first + 1 > MOST_LINES) broken(11, tree, name + " is long");
    if (tree.getParameters().size() > MOST_PARAMETERS) broken(11, tree, name + " takes too many");
    if (Set.of("equals", "hashCode", "toString").contains(name)) broken(6, tree, name + " of its own");
    if (!tree.getThrows().isEmpty()) broken(6, tree, name + " throws");
    if (tree.getModifiers().getFlags().contains(Modifier.PRIVATE) && !name.equals("<init>")) privateNames.add(name);
    calls.computeIfAbsent((ExecutableElement) trees.getElement(getCurrentPath()), e -> new LinkedHashSet<>());
    return super.visitMethod(tree, none);
  }

  // ---- rules 3 and 5: types, constants

  @Override
  public Void visitVariable(VariableTree tree, Void none) {
    Element element = trees.getElement(getCurrentPath());
    TypeMirror type = element.asType();
    if (!isTypeTold(type.toString())) broken(3, tree, "type " + type);
    if (element.getKind() == ElementKind.FIELD && element.getModifiers().contains(Modifier.STATIC)) {
      if (!element.getModifiers().contains(Modifier.FINAL)) broken(5, tree, "a static field that isn't final");
      boolean isRow = type.toString().endsWith("[]");
      boolean isWrittenOut = tree.getInitializer() instanceof NewArrayTree && ((NewArrayTree) tree.getInitializer()).getInitializers() != null;
      if (!CONSTANTS.contains(type.toString()) || isRow && !isWrittenOut) broken(5, tree, "a static field of type " + type);
    }
    return super.visitVariable(tree, none);
  }

  private boolean isTypeTold(String type) {
    String one = type.replaceFirst("\\[\\]$", "");
    if (PLAIN.contains(one)) return true;
    if (PLAIN.contains(one.replaceFirst("\\[\\]$", ""))) return !one.startsWith("boolean");
    if (one.endsWith("[]")) return false;
    if (ownClasses.contains(one.replaceAll("<.*", "").replaceAll(".*\\.", ""))) return true;
    return Set.of("java.lang.String", "java.lang.StringBuilder", "java.lang.Integer").contains(type)
        || type.matches("java\\.util\\.(ArrayList|List)<(java\\.lang\\.Integer|FairTurns\\.\\w+)>");
  }

  // ---- rules 2, 6 and 10: what a method may not say

  @Override
  public Void visitLambdaExpression(LambdaExpressionTree tree, Void none) {
    broken(2, tree, "a lambda");
    return super.visitLambdaExpression(tree, none);
  }

  @Override
  public Void visitMemberReference(MemberReferenceTree tree, Void none) {
    broken(2, tree, "a method reference");
    return super.visitMemberReference(tree, none);
  }

  @Override
  public Void visitThrow(ThrowTree tree, Void none) {
    broken(6, tree, "throw");
    return super.visitThrow(tree, none);
  }

  @Override
  public Void visitTry(TryTree tree, Void none) {
    broken(6, tree, "try");
    return super.visitTry(tree, none);
  }

  @Override
  public Void visitSynchronized(SynchronizedTree tree, Void none) {
    broken(6, tree, "synchronized");
    return super.visitSynchronized(tree, none);
  }

  @Override
  public Void visitAssert(AssertTree tree, Void none) {
    broken(6, tree, "assert");
    return super.visitAssert(tree, none);
  }

  @Override
  public Void visitBinary(BinaryTree tree, Void none) {
    String left = typeOf(tree.getLeftOperand());
    String right = typeOf(tree.getRightOperand());
    boolean isText = left.equals("java.lang.String") || right.equals("java.lang.String");
    boolean isObject = Set.of("java.lang.String", "java.lang.Integer").contains(left) && left.equals(right);
    if (tree.getKind() == Tree.Kind.PLUS && isText) broken(10, tree, "texts joined by +");
    if ((tree.getKind() == Tree.Kind.EQUAL_TO || tree.getKind() == Tree.Kind.NOT_EQUAL_TO) && isObject) broken(6, tree, "== between " + left);
    return super.visitBinary(tree, none);
  }

  @Override
  public Void visitCompoundAssignment(CompoundAssignmentTree tree, Void none) {
    if (typeOf(tree.getVariable()).equals("java.lang.String")) broken(10, tree, "texts joined by +=");
    return super.visitCompoundAssignment(tree, none);
  }

  private String typeOf(Tree tree) {
    TypeMirror type = trees.getTypeMirror(new TreePath(getCurrentPath(), tree));
    return type == null ? "" : type.toString();
  }

  // ---- rules 4 and 12: the library, what is made

  @Override
  public Void visitMethodInvocation(MethodInvocationTree tree, Void none) {
    Element called = trees.getElement(getCurrentPath());
    MethodTree around = methodAround();
    if (isOwn(called)) {
      if (around != null) callsOf(around).add((ExecutableElement) called);
    } else {
      String name = called.getEnclosingElement().getSimpleName() + "." + called.getSimpleName();
      if (!LIBRARY.contains(name)) broken(4, tree, name);
    }
    return super.visitMethodInvocation(tree, none);
  }

  private Set<ExecutableElement> callsOf(MethodTree method) {
    TreePath path = trees.getPath(unit, method);
    return calls.computeIfAbsent((ExecutableElement) trees.getElement(path), e -> new LinkedHashSet<>());
  }

  @Override
  public Void visitNewClass(NewClassTree tree, Void none) {
    if (tree.getClassBody() != null) broken(2, tree, "an anonymous class");
    Element made = trees.getElement(getCurrentPath());
    MethodTree around = methodAround();
    if (isOwn(made) && around != null) callsOf(around).add((ExecutableElement) made);
    if (!isOwn(made)) broken(4, tree, "new " + tree.getIdentifier());
    madeHere(tree);
    return super.visitNewClass(tree, none);
  }

  @Override
  public Void visitNewArray(NewArrayTree tree, Void none) {
    madeHere(tree);
    return super.visitNewArray(tree, none);
  }

  private void madeHere(Tree tree) {
    MethodTree around = methodAround();
    if (around != null && !around.getName().contentEquals("<init>")) broken(12, tree, "made in " + around.getName());
  }

  // ---- rules 8 and 11: calls within calls

  private void theCalls() {
    for (ExecutableElement method : calls.keySet()) {
      if (!comesBack(method)) continue;
      if (!method.getModifiers().contains(Modifier.PRIVATE)) against.add("rule 8: " + method + " calls itself and isn't private");
      boolean byItself = calls.get(method).contains(method) && others(method).isEmpty();
      if (byItself && !method.getModifiers().contains(Modifier.STATIC)) against.add("rule 8: " + method + " alone calls itself and isn't static");
      if (method.getParameters().isEmpty()) against.add("rule 8: " + method + " carries no depth");
    }
    for (ExecutableElement method : calls.keySet()) {
      if (depthOf(method) > MOST_CALLS) against.add("rule 11: calls " + depthOf(method) + " deep from " + method);
    }
  }

  private Set<ExecutableElement> reachedFrom(ExecutableElement method) {
    Set<ExecutableElement> all = new LinkedHashSet<>();
    List<ExecutableElement> next = new ArrayList<>(calls.getOrDefault(method, Set.of()));
    while (!next.isEmpty()) {
      ExecutableElement one = next.remove(next.size() - 1);
      if (all.add(one)) next.addAll(calls.getOrDefault(one, Set.of()));
    }
    return all;
  }

  private boolean comesBack(ExecutableElement method) {
    return reachedFrom(method).contains(method);
  }

  // With which it calls one another.
  private Set<ExecutableElement> others(ExecutableElement method) {
    Set<ExecutableElement> all = new LinkedHashSet<>();
    for (ExecutableElement one : reachedFrom(method)) if (one != method && reachedFrom(one).contains(method)) all.add(one);
    return all;
  }

  // Those that call one another count as one.
  private int depthOf(ExecutableElement method) {
    Integer known = depths.get(method);
    if (known != null) return known;
    Set<ExecutableElement> round = others(method);
    round.add(method);
    int deepest = 0;
    for (ExecutableElement one : round) {
      for (ExecutableElement called : calls.getOrDefault(one, Set.of())) {
        if (!round.contains(called)) deepest = Math.max(deepest, depthOf(called));
      }
    }
    for (ExecutableElement one : round) depths.put(one, deepest + 1);
    return deepest + 1;
  }
}
