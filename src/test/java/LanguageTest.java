import com.sun.source.tree.AssertTree;
import com.sun.source.tree.BlockTree;
import com.sun.source.tree.ClassTree;
import com.sun.source.tree.CompilationUnitTree;
import com.sun.source.tree.LambdaExpressionTree;
import com.sun.source.tree.MemberReferenceTree;
import com.sun.source.tree.MethodInvocationTree;
import com.sun.source.tree.MethodTree;
import com.sun.source.tree.NewClassTree;
import com.sun.source.tree.SynchronizedTree;
import com.sun.source.tree.ThrowTree;
import com.sun.source.tree.Tree;
import com.sun.source.tree.TryTree;
import com.sun.source.tree.VariableTree;
import com.sun.source.util.JavacTask;
import com.sun.source.util.SourcePositions;
import com.sun.source.util.TreePathScanner;
import com.sun.source.util.Trees;
import java.io.File;
import java.lang.reflect.Constructor;
import java.lang.reflect.Field;
import java.lang.reflect.Method;
import java.lang.reflect.Modifier;
import java.util.List;
import java.util.Map;
import java.util.Set;
import java.util.TreeMap;
import java.util.TreeSet;
import javax.lang.model.element.Element;
import javax.lang.model.element.ExecutableElement;
import javax.tools.JavaCompiler;
import javax.tools.StandardJavaFileManager;
import javax.tools.ToolProvider;

/** The rules of LANGUAGE.md that a program can look at, on the face by reflection and on the source by its tree. */
public final class LanguageTest {
    private static final String SOURCE = "src/main/java/RankRoster.java";
    private static final int MOST_DEPTH = 8, MOST_LINES = 60, MOST_PARAMETERS = 7, MOST_CLASSES = 12, MOST_FIELDS = 20;
    private static final Set<String> FACE = Set.of("duty(int,int,int,int,int)", "person(int,int)", "rule(int,int)",
        "wish(int,int,int)", "why(int,int)", "meets(int,int,int)", "lines(int)", "cover(int,int)",
        "better(int,int,int)", "give()", "line(int)", "about(int,int)", "open()", "denied(int,int)", "ahead(int,int)",
        "swap(int,int,int,int)", "sick(int,int)", "who(int)", "count(int)");
    private static final Set<String> CONSTANTS = Set.of("NONE", "BAD", "STATE", "FULL");
    /** What the class calls of the library; a new name here is to be held against rule 4 first. */
    private static final Set<String> LIBRARY = Set.of("java.lang.Integer.bitCount", "java.lang.Integer.lowestOneBit",
        "java.lang.Math.max", "int[].clone", "java.lang.Object.<init>");

    private static int wrong = 0;

    public static void main(String[] args) throws Exception {
        lookAtFace();
        lookAtSource();
        System.out.println(wrong == 0 ? "the rules are kept" : wrong + " rules are broken");
        if (wrong != 0) {
            System.exit(1);
        }
    }

    private static void demand(boolean kept, String what) {
        if (!kept) {
            wrong++;
            System.out.println("broken: " + what);
        }
    }

    private static void lookAtFace() {
        Class<?> face = RankRoster.class;
        demand(Modifier.isPublic(face.getModifiers()) && Modifier.isFinal(face.getModifiers()), "1 public final class");
        demand(face.getPackageName().isEmpty(), "no package");
        Set<String> found = new TreeSet<>();
        for (Method m : face.getDeclaredMethods()) {
            String parameters = String.join(",", List.of(m.getParameterTypes()).stream().map(Class::getName).toList());
            if (Modifier.isPrivate(m.getModifiers())) {
                demand(FACE.stream().noneMatch(f -> f.startsWith(m.getName() + "(")), "1 private " + m.getName());
            } else {
                found.add(m.getName() + "(" + parameters + ")");
                demand(m.getReturnType() == int.class && m.getModifiers() == Modifier.PUBLIC, "1 " + m);
            }
        }
        demand(found.equals(new TreeSet<>(FACE)), "1 the face: " + found);
        Constructor<?>[] made = face.getDeclaredConstructors();
        demand(made.length == 1 && made[0].getModifiers() == Modifier.PUBLIC && made[0].getParameterCount() == 0,
            "1 the constructor");
        Set<String> constants = new TreeSet<>();
        for (Field f : face.getDeclaredFields()) {
            if (!Modifier.isPrivate(f.getModifiers())) {
                constants.add(f.getName());
                demand(Modifier.isPublic(f.getModifiers()) && Modifier.isStatic(f.getModifiers()), "1 " + f);
            }
        }
        demand(constants.equals(new TreeSet<>(CONSTANTS)), "1 the constants: " + constants);
        lookAtClasses(face);
    }

    private static void lookAtClasses(Class<?> face) {
        demand(face.getDeclaredClasses().length + 1 <= MOST_CLASSES, "11 too many classes");
        lookAtFields(face);
        for (Class<?> inside : face.getDeclaredClasses()) {
            int is = inside.getModifiers();
            demand(Modifier.isStatic(is) && !Modifier.isPublic(is) && !Modifier.isProtected(is), "2 " + inside);
            demand(inside.getDeclaredClasses().length == 0, "classes in a class inside: " + inside);
            lookAtFields(inside);
        }
    }

    private static void lookAtFields(Class<?> where) {
        int fields = 0;
        for (Field f : where.getDeclaredFields()) {
            if (Modifier.isStatic(f.getModifiers())) {
                demand(Modifier.isFinal(f.getModifiers()), "5 static and not final: " + f);
            } else {
                fields++;
            }
        }
        demand(fields <= MOST_FIELDS, "11 too many fields: " + where);
    }

    private static void lookAtSource() throws Exception {
        JavaCompiler compiler = ToolProvider.getSystemJavaCompiler();
        try (StandardJavaFileManager files = compiler.getStandardFileManager(null, null, null)) {
            JavacTask task = (JavacTask) compiler.getTask(null, files, null, List.of("-proc:none"), null,
                files.getJavaFileObjects(new File(SOURCE)));
            Iterable<? extends CompilationUnitTree> units = task.parse();
            task.analyze();
            Look look = new Look(Trees.instance(task));
            for (CompilationUnitTree unit : units) {
                demand(unit.getImports().isEmpty(), "3 an import");
                look.scan(unit, null);
            }
            for (String method : look.calls.keySet()) {
                int depth = look.depth(method, 1);
                demand(depth <= MOST_DEPTH, "11 calls go " + depth + " deep from " + method);
            }
        }
    }

    private static final class Look extends TreePathScanner<Void, Void> {
        private final Trees trees;
        private final Map<String, Set<String>> calls = new TreeMap<>();
        private String inside = "";

        Look(Trees trees) {
            this.trees = trees;
        }

        int depth(String method, int level) {
            if (level > 40) {
                demand(false, "8 recursion at " + method);
                return 0;
            }
            int deepest = 0;
            for (String called : calls.getOrDefault(method, Set.of())) {
                deepest = Math.max(deepest, calls.containsKey(called) ? depth(called, level + 1) : 0);
            }
            return deepest + 1;
        }

        private long lineOf(long position) {
            return getCurrentPath().getCompilationUnit().getLineMap().getLineNumber(position);
        }

        private void called(Element what) {
            String name = what.getEnclosingElement() + "." + what.getSimpleName();
            if (name.startsWith("RankRoster")) {
                calls.get(inside).add(name);
            } else {
                String plain = name.startsWith("Array.") ? "int[]." + what.getSimpleName() : name;
                demand(LIBRARY.contains(plain), "4 the library: " + plain);
            }
        }

        @Override
        public Void visitMethod(MethodTree method, Void v) {
            Element element = trees.getElement(getCurrentPath());
            inside = element.getEnclosingElement() + "." + element.getSimpleName();
            demand(!calls.containsKey(inside), "two methods of one name would blur the depth: " + inside);
            calls.put(inside, new TreeSet<>());
            demand(method.getParameters().size() <= MOST_PARAMETERS, "11 parameters of " + inside);
            SourcePositions at = trees.getSourcePositions();
            CompilationUnitTree unit = getCurrentPath().getCompilationUnit();
            if (at.getEndPosition(unit, method) >= 0) {
                long lines = lineOf(at.getEndPosition(unit, method)) - lineOf(at.getStartPosition(unit, method)) + 1;
                demand(lines <= MOST_LINES, "11 " + lines + " lines: " + inside);
            }
            return super.visitMethod(method, v);
        }

        @Override
        public Void visitMethodInvocation(MethodInvocationTree call, Void v) {
            Element element = trees.getElement(getCurrentPath());
            demand(element instanceof ExecutableElement, "unknown call " + call);
            if (element != null && calls.containsKey(inside)) {
                called(element);
            }
            return super.visitMethodInvocation(call, v);
        }

        @Override
        public Void visitNewClass(NewClassTree made, Void v) {
            demand(made.getClassBody() == null, "2 anonymous class");
            Element element = trees.getElement(getCurrentPath());
            if (element != null && calls.containsKey(inside)) {
                called(element);
            }
            return super.visitNewClass(made, v);
        }

        @Override
        public Void visitClass(ClassTree found, Void v) {
            Tree around = getCurrentPath().getParentPath().getLeaf();
            demand(!(around instanceof BlockTree), "2 local class " + found.getSimpleName());
            for (Tree member : found.getMembers()) {
                demand(!(member instanceof BlockTree), "5 initialiser block");
            }
            return super.visitClass(found, v);
        }

        @Override
        public Void visitVariable(VariableTree variable, Void v) {
            String type = String.valueOf(variable.getType());
            demand(type.matches("(int|boolean|Duties|Rules|People|Person|Chart)(\\[\\])?"), "3 the type " + type);
            return super.visitVariable(variable, v);
        }

        @Override
        public Void visitLambdaExpression(LambdaExpressionTree tree, Void v) {
            demand(false, "2 lambda");
            return null;
        }

        @Override
        public Void visitMemberReference(MemberReferenceTree tree, Void v) {
            demand(false, "2 method reference");
            return null;
        }

        @Override
        public Void visitThrow(ThrowTree tree, Void v) {
            demand(false, "6 throw");
            return null;
        }

        @Override
        public Void visitTry(TryTree tree, Void v) {
            demand(false, "6 try");
            return null;
        }

        @Override
        public Void visitSynchronized(SynchronizedTree tree, Void v) {
            demand(false, "6 synchronized");
            return null;
        }

        @Override
        public Void visitAssert(AssertTree tree, Void v) {
            demand(false, "6 assert");
            return null;
        }
    }
}
