import com.sun.source.tree.AnnotationTree;
import com.sun.source.tree.AssertTree;
import com.sun.source.tree.BinaryTree;
import com.sun.source.tree.BlockTree;
import com.sun.source.tree.ClassTree;
import com.sun.source.tree.CompilationUnitTree;
import com.sun.source.tree.CompoundAssignmentTree;
import com.sun.source.tree.ImportTree;
import com.sun.source.tree.InstanceOfTree;
import com.sun.source.tree.LambdaExpressionTree;
import com.sun.source.tree.MemberReferenceTree;
import com.sun.source.tree.MethodInvocationTree;
import com.sun.source.tree.MethodTree;
import com.sun.source.tree.NewArrayTree;
import com.sun.source.tree.NewClassTree;
import com.sun.source.tree.SynchronizedTree;
import com.sun.source.tree.ThrowTree;
import com.sun.source.tree.Tree;
import com.sun.source.tree.TryTree;
import com.sun.source.tree.TypeCastTree;
import com.sun.source.tree.VariableTree;
import com.sun.source.util.JavacTask;
import com.sun.source.util.TreePath;
import com.sun.source.util.TreePathScanner;
import com.sun.source.util.Trees;
import java.nio.file.Path;
import java.util.List;
import java.util.Map;
import java.util.Set;
import java.util.TreeMap;
import java.util.TreeSet;
import javax.lang.model.element.Element;
import javax.lang.model.element.ElementKind;
import javax.lang.model.element.Modifier;
import javax.lang.model.type.TypeKind;
import javax.lang.model.type.TypeMirror;
import javax.tools.JavaCompiler;
import javax.tools.StandardJavaFileManager;
import javax.tools.ToolProvider;

/**
 * The rules of ../shared/LANGUAGE.md that the compiler's own tree of the class can tell. It allows less
 * than they do where the class needs less (no try, no recursion, no cast of an object); an index that is
 * looked at ahead of its use (rule 7) and a loop's end (rule 9) it can't tell.
 */
public final class RulesTest extends TreePathScanner<Void, Void> {
  private static final Path SOURCE = Path.of("src/main/java/SongFields.java");
  private static final Set<String> IMPORTS = Set.of("java.util.Arrays", "java.util.NoSuchElementException");
  private static final Set<String> EXCEPTIONS =
      Set.of(
          "IllegalStateException", "IllegalArgumentException", "IndexOutOfBoundsException", "ArithmeticException",
          "UnsupportedOperationException", "NoSuchElementException", "RuntimeException");
  /** Of what rule 4 lists only what makes no object: with rule 12 a call makes none but its exception. */
  private static final Map<String, Set<String>> LIBRARY =
      Map.of(
          "java.lang.String", Set.of("length", "charAt"),
          "java.lang.Math", Set.of("max", "min", "floorMod"),
          "java.lang.Integer", Set.of("bitCount"),
          "java.lang.System", Set.of("arraycopy"),
          "java.util.Arrays", Set.of("fill"));
  private static final Set<String> NUMBERS = Set.of("int", "long", "short", "byte", "char", "boolean");

  private final CompilationUnitTree unit;
  private final Trees trees;
  private final Map<String, Set<String>> calls = new TreeMap<>();
  private int classes;

  private RulesTest(CompilationUnitTree unit, Trees trees) {
    this.unit = unit;
    this.trees = trees;
  }

  public static void main(String[] args) throws Exception {
    JavaCompiler compiler = ToolProvider.getSystemJavaCompiler();
    try (StandardJavaFileManager files = compiler.getStandardFileManager(null, null, null)) {
      JavacTask task =
          (JavacTask) compiler.getTask(null, files, null, List.of("-proc:none"), null, files.getJavaFileObjects(SOURCE));
      CompilationUnitTree unit = task.parse().iterator().next();
      task.analyze();
      RulesTest test = new RulesTest(unit, Trees.instance(task));
      test.scan(unit, null);
      test.whole();
    }
    Checks.end("RulesTest");
  }

  private void whole() {
    Checks.is("rule 1: no package", unit.getPackageName() == null, true);
    Checks.is("rule 1: one class of the file", unit.getTypeDecls().size(), 1);
    Checks.is("rule 11: some twelve classes", classes <= 12, true);
    Checks.is("methods were seen", calls.size() > 100, true);
    int deepest = 0;
    for (String method : calls.keySet()) {
      deepest = Math.max(deepest, depth(method, new TreeSet<>()));
    }
    Checks.is("rule 11: calls go eight deep at most, here " + deepest, deepest <= 8, true);
  }

  private int depth(String method, Set<String> open) {
    if (!open.add(method)) {
      Checks.is("rule 8: " + method + " does not come to itself again", true, false);
      return 0;
    }
    int deepest = 0;
    for (String called : calls.getOrDefault(method, Set.of())) {
      deepest = Math.max(deepest, depth(called, open));
    }
    open.remove(method);
    return deepest + 1;
  }

  private void never(int rule, Tree tree) {
    Checks.is("rule " + rule + ", line " + line(tree) + ": " + tree, true, false);
  }

  private void must(int rule, Tree tree, boolean holds) {
    Checks.is("rule " + rule + ", line " + line(tree) + ": " + tree, holds, true);
  }

  private long line(Tree tree) {
    return unit.getLineMap().getLineNumber(trees.getSourcePositions().getStartPosition(unit, tree));
  }

  private long lastLine(Tree tree) {
    return unit.getLineMap().getLineNumber(trees.getSourcePositions().getEndPosition(unit, tree));
  }

  private Element element(Tree tree) {
    return trees.getElement(new TreePath(getCurrentPath(), tree));
  }

  /** The method round the place that is looked at; null in a field's own value. */
  private MethodTree around() {
    for (TreePath path = getCurrentPath(); path != null; path = path.getParentPath()) {
      if (path.getLeaf() instanceof MethodTree method) {
        return method;
      }
    }
    return null;
  }

  private static boolean isConstructor(MethodTree method) {
    return method.getName().contentEquals("<init>");
  }

  private static boolean isOwn(Element owner) {
    return owner.toString().startsWith("SongFields");
  }

  private static String name(Element method) {
    return method.getEnclosingElement() + "." + method;
  }

  @Override
  public Void visitImport(ImportTree tree, Void none) {
    must(4, tree, !tree.isStatic() && IMPORTS.contains(tree.getQualifiedIdentifier().toString()));
    return super.visitImport(tree, none);
  }

  @Override
  public Void visitClass(ClassTree tree, Void none) {
    classes++;
    int fields = 0;
    for (Tree member : tree.getMembers()) {
      boolean isField = member instanceof VariableTree;
      fields += isField && !((VariableTree) member).getModifiers().getFlags().contains(Modifier.STATIC) ? 1 : 0;
      must(5, member, !(member instanceof BlockTree));
    }
    Checks.is("rule 11: " + tree.getSimpleName() + " has some twenty fields", fields <= 20, true);
    Set<Modifier> flags = tree.getModifiers().getFlags();
    boolean isOuter = tree.getSimpleName().contentEquals("SongFields");
    Checks.is("rule 2: " + tree.getSimpleName() + " is static", isOuter || flags.contains(Modifier.STATIC), true);
    Checks.is("rule 1: only the class is public", flags.contains(Modifier.PUBLIC), isOuter);
    return super.visitClass(tree, none);
  }

  @Override
  public Void visitVariable(VariableTree tree, Void none) {
    Element variable = trees.getElement(getCurrentPath());
    TypeMirror type = variable.asType();
    String text = type.toString();
    String single = text.replace("[]", "");
    boolean ofNumbers = NUMBERS.contains(single);
    int dimensions = (text.length() - single.length()) / 2;
    must(3, tree, ofNumbers ? dimensions <= 2 : dimensions <= 1 && (single.startsWith("SongFields") || text.equals("java.lang.String")));
    if (variable.getKind() == ElementKind.FIELD && variable.getModifiers().contains(Modifier.STATIC)) {
      must(5, tree, variable.getModifiers().contains(Modifier.FINAL) && (dimensions == 0 && ofNumbers || text.equals("java.lang.String")));
    }
    return super.visitVariable(tree, none);
  }

  @Override
  public Void visitMethod(MethodTree tree, Void none) {
    calls.computeIfAbsent(name(trees.getElement(getCurrentPath())), key -> new TreeSet<>());
    Checks.is("rule 11: " + tree.getName() + " has seven parameters at most", tree.getParameters().size() <= 7, true);
    Checks.is("rule 11: " + tree.getName() + " is short", lastLine(tree) - line(tree) < 60, true);
    return super.visitMethod(tree, none);
  }

  @Override
  public Void visitMethodInvocation(MethodInvocationTree tree, Void none) {
    Element method = element(tree.getMethodSelect());
    Element owner = method.getEnclosingElement();
    if (isOwn(owner)) {
      note(method);
    } else if (method.getKind() == ElementKind.METHOD) {
      Set<String> allowed = LIBRARY.getOrDefault(owner.toString(), Set.of());
      must(4, tree, allowed.contains(method.getSimpleName().toString()));
    }
    return super.visitMethodInvocation(tree, none);
  }

  private void note(Element method) {
    MethodTree from = around();
    if (from != null) {
      Element caller = trees.getElement(trees.getPath(unit, from));
      calls.computeIfAbsent(name(caller), key -> new TreeSet<>()).add(name(method));
    }
  }

  @Override
  public Void visitNewClass(NewClassTree tree, Void none) {
    Element made = element(tree.getIdentifier());
    MethodTree from = around();
    if (isOwn(made)) {
      must(2, tree, tree.getClassBody() == null);
      note(trees.getElement(getCurrentPath()));
    }
    boolean isThrown = getCurrentPath().getParentPath().getLeaf() instanceof ThrowTree;
    must(12, tree, isThrown || isOwn(made) && (from == null || isConstructor(from)));
    return super.visitNewClass(tree, none);
  }

  @Override
  public Void visitNewArray(NewArrayTree tree, Void none) {
    MethodTree from = around();
    must(12, tree, from == null || isConstructor(from));
    return super.visitNewArray(tree, none);
  }

  @Override
  public Void visitThrow(ThrowTree tree, Void none) {
    boolean isNew = tree.getExpression() instanceof NewClassTree;
    must(6, tree, isNew);
    if (isNew) {
      NewClassTree made = (NewClassTree) tree.getExpression();
      must(6, tree, EXCEPTIONS.contains(made.getIdentifier().toString()) && made.getArguments().size() <= 1);
      for (Tree text : made.getArguments()) {
        must(6, tree, text.getKind() == Tree.Kind.STRING_LITERAL);
      }
    }
    must(6, tree, around() != null && !isConstructor(around()));
    return super.visitThrow(tree, none);
  }

  private boolean isText(Tree tree) {
    TypeMirror type = trees.getTypeMirror(new TreePath(getCurrentPath(), tree));
    return type != null && type.toString().equals("java.lang.String");
  }

  private boolean isPrimitive(Tree tree) {
    TypeMirror type = trees.getTypeMirror(new TreePath(getCurrentPath(), tree));
    return type != null && type.getKind().isPrimitive() && type.getKind() != TypeKind.DOUBLE && type.getKind() != TypeKind.FLOAT;
  }

  @Override
  public Void visitBinary(BinaryTree tree, Void none) {
    must(10, tree, !isText(tree) && !isText(tree.getLeftOperand()) && !isText(tree.getRightOperand()));
    return super.visitBinary(tree, none);
  }

  @Override
  public Void visitCompoundAssignment(CompoundAssignmentTree tree, Void none) {
    must(10, tree, !isText(tree));
    return super.visitCompoundAssignment(tree, none);
  }

  @Override
  public Void visitTypeCast(TypeCastTree tree, Void none) {
    must(6, tree, isPrimitive(tree));
    return super.visitTypeCast(tree, none);
  }

  @Override
  public Void visitTry(TryTree tree, Void none) {
    never(6, tree);
    return null;
  }

  @Override
  public Void visitSynchronized(SynchronizedTree tree, Void none) {
    never(6, tree);
    return null;
  }

  @Override
  public Void visitAssert(AssertTree tree, Void none) {
    never(6, tree);
    return null;
  }

  @Override
  public Void visitInstanceOf(InstanceOfTree tree, Void none) {
    never(6, tree);
    return null;
  }

  @Override
  public Void visitLambdaExpression(LambdaExpressionTree tree, Void none) {
    never(2, tree);
    return null;
  }

  @Override
  public Void visitMemberReference(MemberReferenceTree tree, Void none) {
    never(2, tree);
    return null;
  }

  @Override
  public Void visitAnnotation(AnnotationTree tree, Void none) {
    never(4, tree);
    return null;
  }
}
