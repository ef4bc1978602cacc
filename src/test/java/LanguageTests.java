import com.sun.source.tree.*;
import com.sun.source.util.JavacTask;
import com.sun.source.util.TreePath;
import com.sun.source.util.TreePathScanner;
import com.sun.source.util.Trees;
import java.io.IOException;
import java.lang.reflect.InvocationTargetException;
import java.lang.reflect.Method;
import java.nio.file.Files;
import java.nio.file.Path;
import java.util.ArrayList;
import java.util.Comparator;
import java.util.EnumSet;
import java.util.HashMap;
import java.util.HashSet;
import java.util.LinkedHashSet;
import java.util.List;
import java.util.Map;
import java.util.Set;
import javax.lang.model.element.Element;
import javax.lang.model.element.Modifier;
import javax.lang.model.type.TypeKind;
import javax.lang.model.type.TypeMirror;
import javax.tools.JavaCompiler;
import javax.tools.StandardJavaFileManager;
import javax.tools.ToolProvider;

// The rules of LANGUAGE.md that can be read off the source, one test each,
// named after the rule. They ask for what the class uses, which is less than
// the rules leave: who needs more of it widens the test that says so. Rule 1 is
// FaceTests'; rule 7 (no call throws) is what all other tests find out by calls.
public final class LanguageTests {
  private static final Path FILE = Path.of("src/main/java/VeneerYard.java");

  private static final Set<String> LIBRARY = Set.of("Math.max", "Math.min", "Math.abs",
      "System.arraycopy", "Arrays.copyOf", "Arrays.fill");

  private static final Set<Tree.Kind> RULED_OUT = EnumSet.of(Tree.Kind.THROW, Tree.Kind.TRY,
      Tree.Kind.CATCH, Tree.Kind.SYNCHRONIZED, Tree.Kind.ASSERT, Tree.Kind.INSTANCE_OF,
      Tree.Kind.SWITCH_EXPRESSION, Tree.Kind.LAMBDA_EXPRESSION, Tree.Kind.MEMBER_REFERENCE,
      Tree.Kind.ANNOTATION, Tree.Kind.WHILE_LOOP, Tree.Kind.DO_WHILE_LOOP);

  private static int wrong = 0;
  private static String test = "";

  private static CompilationUnitTree file;
  private static Trees trees;
  private static final Map<Tree, TreePath> ALL = new HashMap<>();
  private static final List<Tree> IN_ORDER = new ArrayList<>();

  private static void hold(boolean holds, String what, Tree where) {
    if (holds) return;
    wrong++;
    long at = trees.getSourcePositions().getStartPosition(file, where);
    System.out.println(test + ": does not hold in line " + file.getLineMap().getLineNumber(at) + ": " + what);
  }

  public static void main(String[] args) throws IOException, IllegalAccessException {
    read();
    List<Method> tests = new ArrayList<>();
    for (Method m : LanguageTests.class.getDeclaredMethods()) {
      if (m.getName().matches("rule\\d\\d[A-Z]\\w*")) tests.add(m);
    }
    tests.sort(Comparator.comparing(Method::getName));
    for (Method m : tests) run(m);
    System.out.println(tests.size() + " tests, " + wrong + " places not within the rules");
    if (wrong != 0) System.exit(1);
  }

  private static void run(Method m) throws IllegalAccessException {
    test = m.getName();
    try {
      m.invoke(null);
    } catch (InvocationTargetException e) {
      wrong++;
      System.out.println(test + ": threw " + e.getCause());
    }
  }

  private static void read() throws IOException {
    JavaCompiler compiler = ToolProvider.getSystemJavaCompiler();
    StandardJavaFileManager files = compiler.getStandardFileManager(null, null, null);
    JavacTask task = (JavacTask) compiler.getTask(null, files, null, List.of("-proc:none"), null,
        files.getJavaFileObjects(FILE));
    file = task.parse().iterator().next();
    task.analyze();
    trees = Trees.instance(task);
    new TreePathScanner<Void, Void>() {
      @Override
      public Void scan(Tree tree, Void none) {
        if (tree != null && getCurrentPath() != null) note(new TreePath(getCurrentPath(), tree));
        return super.scan(tree, none);
      }
    }.scan(new TreePath(file), null);
  }

  // What javac adds itself (default constructors) has no place in the file.
  private static void note(TreePath path) {
    Tree tree = path.getLeaf();
    TreePath method = enclosing(path, MethodTree.class);
    if (trees.getSourcePositions().getEndPosition(file, tree) < 0) return;
    if (method != null && trees.getSourcePositions().getEndPosition(file, method.getLeaf()) < 0) return;
    ALL.put(tree, path);
    IN_ORDER.add(tree);
  }

  private static <T extends Tree> List<T> all(Class<T> type) {
    List<T> found = new ArrayList<>();
    for (Tree tree : IN_ORDER) if (type.isInstance(tree)) found.add(type.cast(tree));
    return found;
  }

  private static TreePath enclosing(TreePath path, Class<? extends Tree> type) {
    TreePath up = path;
    while (up != null && !type.isInstance(up.getLeaf())) up = up.getParentPath();
    return up;
  }

  private static Element element(Tree tree) {
    return trees.getElement(ALL.get(tree));
  }

  private static TypeMirror type(Tree tree) {
    return trees.getTypeMirror(ALL.get(tree));
  }

  private static boolean isOwn(Element e) {
    return e != null && (e.toString().startsWith("VeneerYard") || isOwn(e.getEnclosingElement()));
  }

  private static boolean isStatic(ModifiersTree modifiers) {
    return modifiers.getFlags().contains(Modifier.STATIC);
  }

  private static boolean isField(VariableTree v) {
    return ALL.get(v).getParentPath().getLeaf() instanceof ClassTree;
  }

  private static void rule02ClassesInsideAreStaticMembers() {
    for (ClassTree c : all(ClassTree.class)) {
      if (c.getSimpleName().contentEquals("VeneerYard")) continue;
      hold(c.getKind() == Tree.Kind.CLASS, "a class", c);
      hold(isStatic(c.getModifiers()), "static", c);
      hold(c.getModifiers().getFlags().contains(Modifier.FINAL), "final: nothing to override", c);
      Tree around = ALL.get(c).getParentPath().getLeaf();
      hold(around instanceof ClassTree && ((ClassTree) around).getSimpleName().contentEquals("VeneerYard"),
          "right in VeneerYard, not in a method", c);
    }
    for (NewClassTree n : all(NewClassTree.class)) hold(n.getClassBody() == null, "no anonymous class", n);
  }

  private static void rule03Types() {
    Set<TypeKind> numbers = EnumSet.of(TypeKind.INT, TypeKind.LONG, TypeKind.BOOLEAN);
    for (VariableTree v : all(VariableTree.class)) {
      TypeMirror t = type(v);
      boolean row = v.getType() instanceof ArrayTypeTree;
      if (row) t = type(((ArrayTypeTree) v.getType()).getType());
      boolean own = t.getKind() == TypeKind.DECLARED && isOwn(element(v.getType()));
      hold(numbers.contains(t.getKind()) || !row && own, "int, long, boolean, rows of these, own classes", v);
    }
  }

  private static void rule03CharactersUpTo255() throws IOException {
    hold(Files.readString(FILE).chars().allMatch(c -> c < 256), "characters 0 to 255 alone", file);
  }

  private static void rule04NoPackageAndOneImport() {
    hold(file.getPackageName() == null, "no package line", file);
    for (ImportTree i : file.getImports()) {
      hold(i.getQualifiedIdentifier().toString().equals("java.util.Arrays"), "java.util.Arrays alone", i);
    }
    hold(file.getTypeDecls().size() == 1, "one class in the file", file);
  }

  private static void rule04TheLibrary() {
    for (MethodInvocationTree call : all(MethodInvocationTree.class)) {
      Element called = element(call.getMethodSelect());
      if (isOwn(called) || called.getSimpleName().contentEquals("<init>")) continue;
      String name = called.getEnclosingElement().getSimpleName() + "." + called.getSimpleName();
      hold(LIBRARY.contains(name), name + " is one of those that stand there", call);
    }
    for (NewClassTree n : all(NewClassTree.class)) hold(isOwn(element(n)), "own objects alone are made", n);
  }

  private static void rule05StaticFieldsAreConstants() {
    for (VariableTree v : all(VariableTree.class)) {
      if (!isField(v) || !isStatic(v.getModifiers())) continue;
      hold(v.getModifiers().getFlags().contains(Modifier.FINAL), v.getName() + " is final", v);
      hold(v.getType() instanceof PrimitiveTypeTree, v.getName() + " is a number", v);
    }
    for (BlockTree b : all(BlockTree.class)) hold(!b.isStatic(), "no static block", b);
  }

  private static void rule06WhatIsRuledOut() {
    for (Tree t : IN_ORDER) hold(!RULED_OUT.contains(t.getKind()), "no " + t.getKind(), t);
  }

  private static void rule06CastsAndComparisonsOfNumbersAlone() {
    for (TypeCastTree c : all(TypeCastTree.class)) hold(type(c).getKind().isPrimitive(), "a number", c);
    for (BinaryTree b : all(BinaryTree.class)) {
      hold(type(b.getLeftOperand()).getKind().isPrimitive(), "numbers alone in " + b, b);
      hold(type(b.getRightOperand()).getKind().isPrimitive(), "numbers alone in " + b, b);
    }
  }

  // A divisor, or a length that isn't told by a constant, would need a test of its own.
  private static void rule07NoDivisionAndRowsOfKnownLength() {
    for (Tree t : IN_ORDER) {
      hold(!EnumSet.of(Tree.Kind.DIVIDE, Tree.Kind.REMAINDER, Tree.Kind.DIVIDE_ASSIGNMENT,
          Tree.Kind.REMAINDER_ASSIGNMENT).contains(t.getKind()), "no division", t);
    }
    for (NewArrayTree n : all(NewArrayTree.class)) {
      hold(n.getDimensions().size() == 1, "one dimension", n);
      hold(n.getDimensions().get(0).toString().matches("[A-Z_]+"), "a constant as length", n);
    }
  }

  private static void rule07NoNull() {
    for (LiteralTree l : all(LiteralTree.class)) hold(l.getKind() != Tree.Kind.NULL_LITERAL, "no null", l);
    for (VariableTree v : all(VariableTree.class)) {
      if (!isField(v) || v.getType() instanceof PrimitiveTypeTree) continue;
      hold(v.getInitializer() != null, v.getName() + " is there from the start", v);
    }
  }

  private static Map<Element, Set<Element>> calls() {
    Map<Element, Set<Element>> calls = new HashMap<>();
    for (MethodInvocationTree call : all(MethodInvocationTree.class)) {
      TreePath method = enclosing(ALL.get(call), MethodTree.class);
      if (method == null || !isOwn(element(call.getMethodSelect()))) continue;
      calls.computeIfAbsent(trees.getElement(method), e -> new LinkedHashSet<>())
          .add(element(call.getMethodSelect()));
    }
    return calls;
  }

  private static int depth(Element method, Map<Element, Set<Element>> calls, Set<Element> open) {
    if (!open.add(method)) return 1000;
    int deepest = 0;
    for (Element e : calls.getOrDefault(method, Set.of())) deepest = Math.max(deepest, depth(e, calls, open));
    open.remove(method);
    return deepest + 1;
  }

  // No recursion at all, which is the simplest way to keep rule 8.
  private static void rule08And11CallsAtMostEightDeep() {
    Map<Element, Set<Element>> calls = calls();
    for (MethodTree m : all(MethodTree.class)) {
      int depth = depth(element(m), calls, new HashSet<>());
      hold(depth <= 8, m.getName() + " goes at most eight deep, not " + depth, m);
    }
  }

  private static void rule09LoopsCountToABound() {
    for (ForLoopTree f : all(ForLoopTree.class)) {
      String head = f.getInitializer() + " " + f.getCondition() + " " + f.getUpdate();
      boolean counts = f.getInitializer().size() == 1 && f.getInitializer().get(0) instanceof VariableTree
          && f.getUpdate().size() == 1 && f.getUpdate().get(0).toString().endsWith("++;");
      hold(counts, "a counter: " + head, f);
      if (!counts) continue;
      String counter = ((VariableTree) f.getInitializer().get(0)).getName().toString();
      hold(String.valueOf(f.getCondition()).matches(counter + " <=? [\\w.]+"), "a bound: " + head, f);
      hold(f.getUpdate().get(0).toString().equals(counter + "++;"), "up by one: " + head, f);
      hold(!assigns(f.getStatement(), counter), "the counter is changed in the head alone: " + head, f);
    }
  }

  private static boolean assigns(Tree body, String name) {
    for (Tree t : IN_ORDER) {
      if (!isWithin(t, body)) continue;
      if (t instanceof AssignmentTree && ((AssignmentTree) t).getVariable().toString().equals(name)) return true;
      if (t instanceof CompoundAssignmentTree
          && ((CompoundAssignmentTree) t).getVariable().toString().equals(name)) return true;
      if (t instanceof UnaryTree && t.toString().matches("(\\+\\+|--)" + name + "|" + name + "(\\+\\+|--)")) return true;
    }
    return false;
  }

  private static boolean isWithin(Tree tree, Tree around) {
    for (TreePath up = ALL.get(tree); up != null; up = up.getParentPath()) {
      if (up.getLeaf() == around) return true;
    }
    return false;
  }

  private static void rule11Sizes() {
    hold(all(ClassTree.class).size() <= 12, "twelve classes at most", file);
    for (MethodTree m : all(MethodTree.class)) {
      hold(m.getParameters().size() <= 7, m.getName() + " takes seven parameters at most", m);
      hold(lines(m) <= 60, m.getName() + " has sixty lines at most", m);
    }
    for (ClassTree c : all(ClassTree.class)) {
      int fields = 0;
      for (Tree t : c.getMembers()) {
        if (t instanceof VariableTree && !isStatic(((VariableTree) t).getModifiers())) fields++;
      }
      hold(fields <= 20, c.getSimpleName() + " has twenty fields at most", c);
    }
  }

  private static long lines(Tree t) {
    LineMap map = file.getLineMap();
    long first = map.getLineNumber(trees.getSourcePositions().getStartPosition(file, t));
    return map.getLineNumber(trees.getSourcePositions().getEndPosition(file, t)) - first + 1;
  }

  // All rows are made with their object; only those of the thunks grow, and that
  // at most eight times (from 16 to 2,400).
  private static void rule12ObjectsAreMadeInTheConstructorOrByGrow() {
    for (Tree t : IN_ORDER) {
      boolean makes = t instanceof NewClassTree || t instanceof NewArrayTree
          || t instanceof MethodInvocationTree && t.toString().startsWith("Arrays.copyOf");
      TreePath method = makes ? enclosing(ALL.get(t), MethodTree.class) : null;
      if (method == null) continue;
      hold(((MethodTree) method.getLeaf()).getName().contentEquals("grow"), "nothing is made by " + t, t);
    }
  }
}
