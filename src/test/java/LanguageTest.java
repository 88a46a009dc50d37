import com.sun.source.tree.AssertTree;
import com.sun.source.tree.BinaryTree;
import com.sun.source.tree.BlockTree;
import com.sun.source.tree.ClassTree;
import com.sun.source.tree.CompilationUnitTree;
import com.sun.source.tree.CompoundAssignmentTree;
import com.sun.source.tree.DoWhileLoopTree;
import com.sun.source.tree.ExpressionTree;
import com.sun.source.tree.ForLoopTree;
import com.sun.source.tree.InstanceOfTree;
import com.sun.source.tree.LambdaExpressionTree;
import com.sun.source.tree.LiteralTree;
import com.sun.source.tree.MemberReferenceTree;
import com.sun.source.tree.MethodInvocationTree;
import com.sun.source.tree.MethodTree;
import com.sun.source.tree.NewArrayTree;
import com.sun.source.tree.NewClassTree;
import com.sun.source.tree.SynchronizedTree;
import com.sun.source.tree.ThrowTree;
import com.sun.source.tree.Tree;
import com.sun.source.tree.TryTree;
import com.sun.source.tree.TypeCastTree;
import com.sun.source.tree.VariableTree;
import com.sun.source.tree.WhileLoopTree;
import com.sun.source.util.JavacTask;
import com.sun.source.util.TreePath;
import com.sun.source.util.TreePathScanner;
import com.sun.source.util.Trees;
import java.nio.file.Files;
import java.nio.file.Path;
import java.util.ArrayList;
import java.util.HashMap;
import java.util.List;
import java.util.Map;
import java.util.Set;
import java.util.TreeMap;
import java.util.TreeSet;
import java.util.regex.Pattern;
import javax.lang.model.element.Element;
import javax.lang.model.element.ElementKind;
import javax.lang.model.element.ExecutableElement;
import javax.lang.model.element.Modifier;
import javax.lang.model.element.TypeElement;
import javax.lang.model.type.TypeMirror;
import javax.tools.JavaCompiler;
import javax.tools.StandardJavaFileManager;
import javax.tools.ToolProvider;

/**
 * The class keeps to those rules of LANGUAGE.md that its source shows. It is stricter where the class
 * needs less than the rules leave: no import, no try, no cast, no object made but by constructors.
 * The class's source is the first argument; a line for each breach, with the rule's number.
 */
public final class LanguageTest {
  private static final int MOST_PARAMETERS = 7;
  private static final int MOST_LINES = 60;
  private static final int MOST_CLASSES = 12;
  private static final int MOST_FIELDS = 20;
  private static final int MOST_DEEP = 8;

  private static final Set<String> TYPES = Set.of("int", "long", "boolean", "double", "void", "boolean[]", "int[]");
  private static final Set<String> CONSTANTS = Set.of("int", "long", "boolean", "char", "java.lang.String");
  private static final Set<String> LIBRARY = Set.of("java.lang.Math.max(int,int)", "java.lang.Math.min(int,int)",
      "java.lang.System.arraycopy(java.lang.Object,int,java.lang.Object,int,int)", "java.lang.Object.Object()");
  private static final Set<String> EXCEPTIONS = Set.of("java.lang.IllegalStateException",
      "java.lang.IllegalArgumentException", "java.lang.IndexOutOfBoundsException");
  private static final Pattern BOUNDED = Pattern.compile("^\\(?\\w+ (<|<=|>=|>) [\\w.\\[\\] +*]+( && .*)?\\)?$");

  private static int wrong;

  private static void due(boolean holds, int rule, String what) {
    if (!holds) {
      wrong++;
      System.out.println("rule " + rule + ": " + what);
    }
  }

  public static void main(String[] args) throws Exception {
    Path path = Path.of(args[0]);
    String source = Files.readString(path);
    due(source.chars().allMatch(c -> c == '\n' || c >= 32 && c < 127), 4, "the source has a strange sign");
    JavaCompiler compiler = ToolProvider.getSystemJavaCompiler();
    try (StandardJavaFileManager files = compiler.getStandardFileManager(null, null, null)) {
      JavacTask task = (JavacTask) compiler.getTask(null, files, null, List.of("-proc:none"), null, files.getJavaFileObjects(path));
      CompilationUnitTree unit = task.parse().iterator().next();
      task.analyze();
      Rules rules = new Rules(Trees.instance(task), unit);
      rules.scan(unit, null);
      rules.checkWhole();
    }
    System.out.println(wrong == 0 ? "the class keeps to the language" : wrong + " breaches of the language");
    if (wrong != 0) {
      System.exit(1);
    }
  }

  private static final class Rules extends TreePathScanner<Void, Void> {
    private final Trees trees;
    private final CompilationUnitTree unit;
    private final Map<String, Set<String>> calls = new TreeMap<>();
    private final TreeSet<String> own = new TreeSet<>();
    private String method = "";
    private boolean inConstructor;

    Rules(Trees trees, CompilationUnitTree unit) {
      this.trees = trees;
      this.unit = unit;
    }

    private long lineOf(long position) {
      return unit.getLineMap().getLineNumber(position);
    }

    private String here(Tree tree) {
      return "line " + lineOf(trees.getSourcePositions().getStartPosition(unit, tree)) + ": " + tree.toString().lines().findFirst().orElse("");
    }

    private Element elementOf(Tree tree) {
      return trees.getElement(new TreePath(getCurrentPath(), tree));
    }

    private String typeOf(Tree tree) {
      TypeMirror type = trees.getTypeMirror(new TreePath(getCurrentPath(), tree));
      return type == null ? "?" : type.toString();
    }

    private static String nameOf(Element e) {
      return e.getEnclosingElement() + "." + (e.getKind() == ElementKind.CONSTRUCTOR
          ? e.toString().replaceFirst("^\\w+(?=\\()", e.getEnclosingElement().getSimpleName().toString()) : e.toString());
    }

    // ---- rules 1, 2, 5 and 11: classes, fields and methods

    @Override
    public Void visitCompilationUnit(CompilationUnitTree tree, Void none) {
      due(tree.getPackageName() == null, 1, "it has a package line");
      due(tree.getImports().isEmpty(), 4, "it imports");
      due(tree.getTypeDecls().size() == 1, 1, "more than one class stands in the file");
      return super.visitCompilationUnit(tree, none);
    }

    @Override
    public Void visitClass(ClassTree tree, Void none) {
      TypeElement element = (TypeElement) trees.getElement(getCurrentPath());
      own.add(element.toString());
      Set<Modifier> modifiers = tree.getModifiers().getFlags();
      boolean outer = getCurrentPath().getParentPath().getLeaf() == unit;
      due(outer ? modifiers.containsAll(Set.of(Modifier.PUBLIC, Modifier.FINAL))
          : modifiers.contains(Modifier.STATIC) && !modifiers.contains(Modifier.PUBLIC), 1, here(tree));
      due(getCurrentPath().getParentPath().getLeaf().getKind() != Tree.Kind.BLOCK, 2, "a class in a method: " + here(tree));
      int fields = 0;
      for (Tree member : tree.getMembers()) {
        due(!(member instanceof BlockTree), 5, "a block of its own: " + here(member));
        if (member instanceof VariableTree && !((VariableTree) member).getModifiers().getFlags().contains(Modifier.STATIC)) {
          fields++;
        }
      }
      due(fields <= MOST_FIELDS, 11, fields + " fields: " + here(tree));
      return super.visitClass(tree, none);
    }

    @Override
    public Void visitVariable(VariableTree tree, Void none) {
      String type = typeOf(tree.getType());
      Set<Modifier> modifiers = tree.getModifiers().getFlags();
      due(TYPES.contains(type) || type.startsWith("VtableTown"), 3, here(tree));
      if (modifiers.contains(Modifier.STATIC)) {
        due(modifiers.contains(Modifier.FINAL) && CONSTANTS.contains(type), 5, here(tree));
      }
      return super.visitVariable(tree, none);
    }

    @Override
    public Void visitMethod(MethodTree tree, Void none) {
      ExecutableElement element = (ExecutableElement) trees.getElement(getCurrentPath());
      String outer = method;
      method = nameOf(element);
      inConstructor = element.getKind() == ElementKind.CONSTRUCTOR;
      calls.computeIfAbsent(method, m -> new TreeSet<>());
      due(tree.getParameters().size() <= MOST_PARAMETERS, 11, "parameters of " + method);
      long lines = lineOf(trees.getSourcePositions().getEndPosition(unit, tree))
          - lineOf(trees.getSourcePositions().getStartPosition(unit, tree)) + 1;
      due(inConstructor || lines <= MOST_LINES, 11, lines + " lines: " + method);
      due(!Set.of("toString", "equals", "hashCode", "finalize", "clone").contains(tree.getName().toString()), 6, method);
      if (tree.getReturnType() != null) {
        String type = typeOf(tree.getReturnType());
        due(TYPES.contains(type) || type.startsWith("VtableTown"), 3, method);
      }
      super.visitMethod(tree, none);
      method = outer;
      inConstructor = false;
      return null;
    }

    // ---- rules 4 and 12: what is called, and what is made

    @Override
    public Void visitMethodInvocation(MethodInvocationTree tree, Void none) {
      Element called = elementOf(tree.getMethodSelect());
      String name = nameOf(called);
      if (called.getEnclosingElement().toString().startsWith("VtableTown")) {
        calls.get(method).add(name);
        due(!inConstructor, 12, "a constructor calls: " + here(tree));
      } else {
        due(LIBRARY.contains(name), 4, name + ", " + here(tree));
      }
      return super.visitMethodInvocation(tree, none);
    }

    @Override
    public Void visitNewClass(NewClassTree tree, Void none) {
      String type = typeOf(tree.getIdentifier());
      due(tree.getClassBody() == null, 2, "a class without a name: " + here(tree));
      if (EXCEPTIONS.contains(type)) {
        due(getCurrentPath().getParentPath().getLeaf() instanceof ThrowTree, 6, here(tree));
        List<? extends ExpressionTree> texts = tree.getArguments();
        due(texts.isEmpty() || texts.size() == 1 && texts.get(0) instanceof LiteralTree, 6, here(tree));
      } else {
        due(type.startsWith("VtableTown"), 4, here(tree));
        due(inConstructor || method.isEmpty(), 12, "made while a call is answered: " + here(tree));
      }
      return super.visitNewClass(tree, none);
    }

    @Override
    public Void visitNewArray(NewArrayTree tree, Void none) {
      due(method.isEmpty(), 12, "made while a call is answered: " + here(tree));
      return super.visitNewArray(tree, none);
    }

    // ---- rules 2, 6, 7 and 10: what is ruled out

    @Override
    public Void visitThrow(ThrowTree tree, Void none) {
      due(tree.getExpression() instanceof NewClassTree && EXCEPTIONS.contains(typeOf(tree.getExpression())), 6, here(tree));
      due(!inConstructor, 6, here(tree));
      return super.visitThrow(tree, none);
    }

    @Override
    public Void visitTry(TryTree tree, Void none) {
      due(false, 6, here(tree));
      return super.visitTry(tree, none);
    }

    @Override
    public Void visitSynchronized(SynchronizedTree tree, Void none) {
      due(false, 6, here(tree));
      return super.visitSynchronized(tree, none);
    }

    @Override
    public Void visitAssert(AssertTree tree, Void none) {
      due(false, 6, here(tree));
      return super.visitAssert(tree, none);
    }

    @Override
    public Void visitInstanceOf(InstanceOfTree tree, Void none) {
      due(false, 6, here(tree));
      return super.visitInstanceOf(tree, none);
    }

    @Override
    public Void visitTypeCast(TypeCastTree tree, Void none) {
      due(Set.of("double", "long", "int").contains(typeOf(tree.getType())), 7, here(tree));
      return super.visitTypeCast(tree, none);
    }

    @Override
    public Void visitLambdaExpression(LambdaExpressionTree tree, Void none) {
      due(false, 2, here(tree));
      return super.visitLambdaExpression(tree, none);
    }

    @Override
    public Void visitMemberReference(MemberReferenceTree tree, Void none) {
      due(false, 2, here(tree));
      return super.visitMemberReference(tree, none);
    }

    @Override
    public Void visitBinary(BinaryTree tree, Void none) {
      due(!typeOf(tree).equals("java.lang.String"), 10, here(tree));
      if (tree.getKind() == Tree.Kind.DIVIDE || tree.getKind() == Tree.Kind.REMAINDER) {
        checkDivisor(tree.getRightOperand(), tree);
      }
      return super.visitBinary(tree, none);
    }

    /** A divisor is a constant, or the quotient stands behind a test of it against 0. */
    private void checkDivisor(ExpressionTree divisor, Tree whole) {
      String name = divisor.toString();
      boolean tested = getCurrentPath().getParentPath().getLeaf().toString().startsWith(name + " == 0 ? 0.0 : ");
      due(name.matches("[A-Z_]+|[1-9][0-9]*") || tested, 7, here(whole));
    }

    @Override
    public Void visitCompoundAssignment(CompoundAssignmentTree tree, Void none) {
      due(tree.getKind() != Tree.Kind.DIVIDE_ASSIGNMENT && tree.getKind() != Tree.Kind.REMAINDER_ASSIGNMENT, 7, here(tree));
      due(!typeOf(tree).equals("java.lang.String"), 10, here(tree));
      return super.visitCompoundAssignment(tree, none);
    }

    // ---- rule 9: each loop counts against a bound

    @Override
    public Void visitForLoop(ForLoopTree tree, Void none) {
      boolean bounded = tree.getCondition() != null && BOUNDED.matcher(tree.getCondition().toString()).matches();
      due(bounded && tree.getUpdate().size() == 1 && tree.getUpdate().get(0).toString().matches("\\w+(\\+\\+|--);?"), 9, here(tree));
      return super.visitForLoop(tree, none);
    }

    @Override
    public Void visitWhileLoop(WhileLoopTree tree, Void none) {
      boolean bounded = BOUNDED.matcher(tree.getCondition().toString()).matches();
      due(bounded && tree.getStatement().toString().matches("(?s).*\\w+\\+\\+;\\s*}"), 9, here(tree));
      return super.visitWhileLoop(tree, none);
    }

    @Override
    public Void visitDoWhileLoop(DoWhileLoopTree tree, Void none) {
      due(false, 9, here(tree));
      return super.visitDoWhileLoop(tree, none);
    }

    // ---- rules 8 and 11: how deep calls go

    void checkWhole() {
      due(own.size() > 1 && own.size() <= MOST_CLASSES, 11, own.size() + " classes");
      due(calls.size() > 50, 11, "only " + calls.size() + " methods were looked at");
      Map<String, Set<String>> reached = new HashMap<>();
      for (String from : calls.keySet()) {
        reached.put(from, reachedFrom(from));
      }
      List<String> recursive = new ArrayList<>();
      for (String m : calls.keySet()) {
        if (reached.get(m).contains(m)) {
          recursive.add(m);
        }
      }
      checkRecursive(recursive);
      Map<String, Integer> deep = new HashMap<>();
      for (String m : calls.keySet()) {
        int depth = depthOf(m, reached, deep);
        due(depth <= MOST_DEEP, 11, depth + " calls deep: " + m);
      }
    }

    private Set<String> reachedFrom(String from) {
      Set<String> all = new TreeSet<>();
      List<String> open = new ArrayList<>(calls.get(from));
      while (!open.isEmpty()) {
        String m = open.remove(open.size() - 1);
        if (all.add(m)) {
          open.addAll(calls.getOrDefault(m, Set.of()));
        }
      }
      return all;
    }

    /** What calls itself must be limited: by the set of those being LOADED, by those ASLEEP, by FRAMES. */
    private static void checkRecursive(List<String> recursive) {
      for (String m : recursive) {
        due(m.startsWith("VtableTown.Machine."), 8, "calls itself without a limit that is known: " + m);
      }
    }

    /** The longest row of calls from a method on; those that call one another in a ring count as one. */
    private int depthOf(String from, Map<String, Set<String>> reached, Map<String, Integer> known) {
      if (known.containsKey(from)) {
        return known.get(from);
      }
      Set<String> ring = new TreeSet<>(Set.of(from));
      for (String m : reached.get(from)) {
        if (reached.containsKey(m) && reached.get(m).contains(from)) {
          ring.add(m);
        }
      }
      int most = 0;
      for (String m : ring) {
        for (String next : calls.get(m)) {
          if (!ring.contains(next) && calls.containsKey(next)) {
            most = Math.max(most, depthOf(next, reached, known));
          }
        }
      }
      known.put(from, most + 1);
      return most + 1;
    }
  }
}
