import com.sun.source.tree.BinaryTree;
import com.sun.source.tree.ClassTree;
import com.sun.source.tree.CompilationUnitTree;
import com.sun.source.tree.CompoundAssignmentTree;
import com.sun.source.tree.DoWhileLoopTree;
import com.sun.source.tree.ExpressionTree;
import com.sun.source.tree.ForLoopTree;
import com.sun.source.tree.LiteralTree;
import com.sun.source.tree.MemberSelectTree;
import com.sun.source.tree.MethodInvocationTree;
import com.sun.source.tree.MethodTree;
import com.sun.source.tree.NewArrayTree;
import com.sun.source.tree.NewClassTree;
import com.sun.source.tree.Tree;
import com.sun.source.tree.TypeCastTree;
import com.sun.source.tree.VariableTree;
import com.sun.source.tree.WhileLoopTree;
import com.sun.source.util.JavacTask;
import com.sun.source.util.TreePath;
import com.sun.source.util.TreePathScanner;
import com.sun.source.util.Trees;
import java.nio.file.Path;
import java.util.ArrayList;
import java.util.EnumSet;
import java.util.HashMap;
import java.util.LinkedHashMap;
import java.util.LinkedHashSet;
import java.util.List;
import java.util.Map;
import java.util.Set;
import javax.lang.model.element.Element;
import javax.lang.model.element.ElementKind;
import javax.lang.model.element.ExecutableElement;
import javax.lang.model.element.Modifier;
import javax.lang.model.element.TypeElement;
import javax.lang.model.element.VariableElement;
import javax.lang.model.type.TypeKind;
import javax.lang.model.type.TypeMirror;
import javax.lang.model.util.Elements;
import javax.tools.JavaCompiler;
import javax.tools.StandardJavaFileManager;
import javax.tools.ToolProvider;

/**
 * What LANGUAGE.md asks of the source, looked for in the compiler's own tree of it. Two limits are the class's own, not
 * the language's: no recursion, and no object made but by a constructor.
 */
final class RuleScan extends TreePathScanner<Void, Void> {
  private static final int DEEPEST = 8;
  private static final Set<Tree.Kind> LEFT_OUT =
      EnumSet.of(
          Tree.Kind.THROW, Tree.Kind.TRY, Tree.Kind.CATCH, Tree.Kind.SYNCHRONIZED, Tree.Kind.ASSERT,
          Tree.Kind.LAMBDA_EXPRESSION, Tree.Kind.MEMBER_REFERENCE, Tree.Kind.ANNOTATION, Tree.Kind.IMPORT, Tree.Kind.PACKAGE);
  /** All that the class takes of the library; another one has to be looked up in rule 4 first. */
  private static final Set<String> LIBRARY =
      Set.of(
          "java.lang.Math.min(int,int)", "java.lang.Math.max(long,long)", "java.lang.Integer.bitCount(int)",
          "java.lang.String.length()", "java.lang.String.charAt(int)",
          "java.lang.System.arraycopy(java.lang.Object,int,java.lang.Object,int,int)");
  /** Where a divisor is no constant it is tested first, as was looked at by eye. */
  private static final Set<String> TESTED_DIVISORS = Set.of("keepFraction", "commonDivisor");
  /** Loops without a counter of their own in the head; each goes on to the text's length, as was looked at by eye. */
  private static final Set<String> TESTED_WHILES = Set.of("advance", "endOfRun");

  private final Trees trees;
  private final Elements elements;
  private final List<String> faults = new ArrayList<>();
  private final Map<ExecutableElement, Set<ExecutableElement>> calls = new LinkedHashMap<>();
  /** Calls that another class's method may answer; who that is can be told when all methods are known. */
  private final List<ExecutableElement[]> overridable = new ArrayList<>();
  /** By class: what its fields call when an object is made. */
  private final Map<Element, Set<ExecutableElement>> byFields = new HashMap<>();
  private final Map<ExecutableElement, Integer> depths = new HashMap<>();
  private final Set<ExecutableElement> open = new LinkedHashSet<>();
  private Element type;
  private ExecutableElement method;

  private RuleScan(Trees trees, Elements elements) {
    this.trees = trees;
    this.elements = elements;
  }

  static List<String> faultsOf(String source) throws Exception {
    JavaCompiler compiler = ToolProvider.getSystemJavaCompiler();
    try (StandardJavaFileManager files = compiler.getStandardFileManager(null, null, null)) {
      List<String> options = List.of("-proc:none");
      JavacTask task =
          (JavacTask) compiler.getTask(null, files, null, options, null, files.getJavaFileObjects(Path.of(source)));
      List<CompilationUnitTree> units = new ArrayList<>();
      task.parse().forEach(units::add);
      task.analyze();
      RuleScan scan = new RuleScan(Trees.instance(task), task.getElements());
      for (CompilationUnitTree unit : units) {
        scan.scan(unit, null);
      }
      scan.measureDepths();
      return scan.faults;
    }
  }

  private void fault(String what) {
    faults.add(what + " in " + (method == null ? "a field" : named(method)));
  }

  private static String named(ExecutableElement m) {
    return m.getEnclosingElement().getSimpleName() + "." + m.getSimpleName();
  }

  private Element element() {
    return trees.getElement(getCurrentPath());
  }

  @Override
  public Void scan(Tree tree, Void none) {
    if (tree != null && LEFT_OUT.contains(tree.getKind())) {
      fault("a " + tree.getKind());
    }
    return super.scan(tree, none);
  }

  @Override
  public Void visitClass(ClassTree tree, Void none) {
    Element typeAround = type;
    ExecutableElement methodAround = method;
    type = element();
    method = null;
    if (typeAround != null && !type.getModifiers().contains(Modifier.STATIC)) {
      fault("a class that is not static, " + type + ",");
    }
    super.visitClass(tree, none);
    type = typeAround;
    method = methodAround;
    return null;
  }

  @Override
  public Void visitMethod(MethodTree tree, Void none) {
    method = (ExecutableElement) element();
    calls.putIfAbsent(method, new LinkedHashSet<>());
    super.visitMethod(tree, none);
    method = null;
    return null;
  }

  @Override
  public Void visitMethodInvocation(MethodInvocationTree tree, Void none) {
    ExecutableElement called = (ExecutableElement) trees.getElement(new TreePath(getCurrentPath(), tree.getMethodSelect()));
    boolean bySuper =
        tree.getMethodSelect() instanceof MemberSelectTree
            && ((MemberSelectTree) tree.getMethodSelect()).getExpression().toString().equals("super");
    if (isOwn(called)) {
      addCall(called, bySuper);
    } else if (called.getKind() != ElementKind.CONSTRUCTOR) {
      String name = called.getEnclosingElement() + "." + called;
      if (!LIBRARY.contains(name)) {
        fault("a call of the library that was not looked up, " + name + ",");
      }
    }
    return super.visitMethodInvocation(tree, none);
  }

  private static boolean isOwn(Element member) {
    return member.getEnclosingElement().toString().startsWith("PutBack");
  }

  private void addCall(ExecutableElement called, boolean exactly) {
    if (method == null) {
      byFields.computeIfAbsent(type, key -> new LinkedHashSet<>()).add(called);
    } else {
      calls.get(method).add(called);
      if (!exactly) {
        overridable.add(new ExecutableElement[] {method, called});
      }
    }
  }

  @Override
  public Void visitNewClass(NewClassTree tree, Void none) {
    noObjectIn("an object");
    if (element() instanceof ExecutableElement && isOwn(element())) {
      addCall((ExecutableElement) element(), true);
    } else {
      fault("an object of another's class");
    }
    return super.visitNewClass(tree, none);
  }

  @Override
  public Void visitNewArray(NewArrayTree tree, Void none) {
    noObjectIn("an array");
    return super.visitNewArray(tree, none);
  }

  private void noObjectIn(String what) {
    if (method != null && method.getKind() != ElementKind.CONSTRUCTOR) {
      fault(what + " made");
    }
  }

  @Override
  public Void visitVariable(VariableTree tree, Void none) {
    VariableElement variable = (VariableElement) element();
    boolean constant = variable.getModifiers().contains(Modifier.STATIC);
    if (constant && !(variable.getModifiers().contains(Modifier.FINAL) && variable.asType().getKind() == TypeKind.INT)) {
      fault("a static " + variable);
    }
    if (!isTaken(variable.asType())) {
      fault("a variable of " + variable.asType());
    }
    return super.visitVariable(tree, none);
  }

  private static boolean isTaken(TypeMirror type) {
    String name = type.toString();
    return name.matches("(int|long|short|byte|char|boolean)(\\[\\]){0,2}|java\\.lang\\.String|PutBack\\.\\w+(\\[\\])?");
  }

  @Override
  public Void visitBinary(BinaryTree tree, Void none) {
    if (tree.getKind() == Tree.Kind.DIVIDE || tree.getKind() == Tree.Kind.REMAINDER) {
      divisor(tree.getRightOperand());
    }
    if (tree.getKind() == Tree.Kind.PLUS && isText(trees.getTypeMirror(getCurrentPath()))) {
      fault("texts joined by +");
    }
    return super.visitBinary(tree, none);
  }

  @Override
  public Void visitCompoundAssignment(CompoundAssignmentTree tree, Void none) {
    if (tree.getKind() == Tree.Kind.PLUS_ASSIGNMENT && isText(trees.getTypeMirror(getCurrentPath()))) {
      fault("texts joined by +=");
    }
    if (tree.getKind() == Tree.Kind.DIVIDE_ASSIGNMENT || tree.getKind() == Tree.Kind.REMAINDER_ASSIGNMENT) {
      divisor(tree.getExpression());
    }
    return super.visitCompoundAssignment(tree, none);
  }

  private static boolean isText(TypeMirror type) {
    return type.toString().equals("java.lang.String");
  }

  private void divisor(ExpressionTree by) {
    Element named = trees.getElement(new TreePath(getCurrentPath(), by));
    boolean constant = named instanceof VariableElement && ((VariableElement) named).getConstantValue() != null;
    boolean tested = method != null && TESTED_DIVISORS.contains(method.getSimpleName().toString());
    if (!(by instanceof LiteralTree) && !constant && !tested) {
      fault("a divisor that was not looked at, " + by + ",");
    }
  }

  @Override
  public Void visitTypeCast(TypeCastTree tree, Void none) {
    if (tree.getType().getKind() != Tree.Kind.PRIMITIVE_TYPE) {
      fault("a cast to " + tree.getType());
    }
    return super.visitTypeCast(tree, none);
  }

  @Override
  public Void visitForLoop(ForLoopTree tree, Void none) {
    if (tree.getCondition() == null || tree.getUpdate().size() != 1 || tree.getInitializer().size() != 1) {
      fault("a for without a counter and its bound");
    }
    return super.visitForLoop(tree, none);
  }

  @Override
  public Void visitWhileLoop(WhileLoopTree tree, Void none) {
    noNewWhile();
    return super.visitWhileLoop(tree, none);
  }

  @Override
  public Void visitDoWhileLoop(DoWhileLoopTree tree, Void none) {
    noNewWhile();
    return super.visitDoWhileLoop(tree, none);
  }

  private void noNewWhile() {
    if (method == null || !TESTED_WHILES.contains(method.getSimpleName().toString())) {
      fault("a while that was not looked at");
    }
  }

  private void addHiddenCalls() {
    for (ExecutableElement m : calls.keySet()) {
      if (m.getKind() == ElementKind.CONSTRUCTOR) {
        calls.get(m).addAll(byFields.getOrDefault(m.getEnclosingElement(), Set.of()));
      }
      for (ExecutableElement[] pair : overridable) {
        if (elements.overrides(m, pair[1], (TypeElement) m.getEnclosingElement())) {
          calls.get(pair[0]).add(m);
        }
      }
    }
  }

  private void measureDepths() {
    addHiddenCalls();
    int most = 0;
    for (ExecutableElement m : calls.keySet()) {
      most = Math.max(most, depth(m));
    }
    if (most > DEEPEST) {
      faults.add("calls go " + most + " deep");
    }
  }

  /** How many calls stand open at once, this one, too; a call that comes back to itself is a fault. */
  private int depth(ExecutableElement m) {
    if (depths.containsKey(m)) {
      return depths.get(m);
    }
    if (!open.add(m)) {
      faults.add("a recursion by " + named(m));
      return 0;
    }
    int most = 0;
    for (ExecutableElement called : calls.getOrDefault(m, Set.of())) {
      most = Math.max(most, depth(called));
    }
    open.remove(m);
    depths.put(m, most + 1);
    return most + 1;
  }
}
