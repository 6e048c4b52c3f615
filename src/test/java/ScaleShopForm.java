import com.sun.source.tree.ClassTree;
import com.sun.source.tree.MethodInvocationTree;
import com.sun.source.tree.MethodTree;
import com.sun.source.tree.NewClassTree;
import com.sun.source.tree.Tree;
import com.sun.source.util.JavacTask;
import com.sun.source.util.TreePathScanner;
import com.sun.source.util.Trees;
import java.lang.management.ManagementFactory;
import java.lang.reflect.Constructor;
import java.lang.reflect.Field;
import java.lang.reflect.Method;
import java.lang.reflect.Modifier;
import java.nio.file.Files;
import java.nio.file.Path;
import java.util.Arrays;
import java.util.LinkedHashMap;
import java.util.LinkedHashSet;
import java.util.List;
import java.util.Map;
import java.util.Random;
import java.util.Set;
import java.util.TreeSet;
import java.util.regex.Matcher;
import java.util.regex.Pattern;
import javax.lang.model.element.Element;
import javax.tools.JavaCompiler;
import javax.tools.StandardJavaFileManager;
import javax.tools.ToolProvider;

/** The form that LANGUAGE.md asks for, as far as a test can see it, and calls with numbers of all sizes. */
public final class ScaleShopForm {
    private static final List<String> FACE = List.of(
        "int at(int,int,int)", "int choose()", "int clash(int,int,int)", "int clashes(int)", "int corner(int,int,int)",
        "int count(int)", "boolean done(int)", "boolean drop(int)", "long far(int,int)", "int feature(int,int,int,int)",
        "int few(int,int)", "boolean grow(int)", "int inside(int,int,int)", "int join(int,int,int)",
        "boolean meets(int,int)", "long near(int,int,int)", "int plainer(int,int)", "int redo()", "int run(int)",
        "boolean shift(int,int,int,int,int)", "int side(int,int,int,int)", "long size(int)", "boolean smooth(int)",
        "boolean square(int,int)", "int status()", "int step(int,int)", "boolean tear(int)", "int told(int,int)",
        "int undo()");
    private static final int[] ODD = {Integer.MIN_VALUE, Integer.MIN_VALUE + 1, -1001, -201, -200, -1, 0, 1, 2, 3, 20,
        21, 39, 40, 41, 199, 200, 201, 1000, 1001, 40000, Integer.MAX_VALUE - 1, Integer.MAX_VALUE};
    private static int wrong = 0;

    public static void main(String[] args) throws Exception {
        faceIsAsTold();
        classesInside();
        sourceIsWithinTheRules();
        methodsAreShort();
        callsAreNotDeep();
        nothingIsThrown();
        roomIsKept();
        System.out.println(wrong == 0 ? "the form is as due" : wrong + " things are not as due");
        if (wrong != 0) {
            System.exit(1);
        }
    }

    private static void ask(boolean holds, String what) {
        if (!holds) {
            wrong++;
            System.out.println(what);
        }
    }

    private static String signature(Method m) {
        StringBuilder text = new StringBuilder(m.getReturnType() + " " + m.getName() + "(");
        for (Class<?> c : m.getParameterTypes()) {
            text.append(text.charAt(text.length() - 1) == '(' ? "" : ",").append(c);
        }
        return text.append(')').toString();
    }

    private static void faceIsAsTold() throws Exception {
        TreeSet<String> found = new TreeSet<>();
        TreeSet<String> names = new TreeSet<>();
        for (Method m : ScaleShop.class.getDeclaredMethods()) {
            if (Modifier.isPublic(m.getModifiers())) {
                found.add(signature(m));
                names.add(m.getName());
            }
        }
        ask(found.equals(new TreeSet<>(FACE)), "the public methods are " + found);
        for (Method m : ScaleShop.class.getDeclaredMethods()) {
            boolean open = Modifier.isPublic(m.getModifiers());
            ask(open || Modifier.isPrivate(m.getModifiers()), m + " is neither public nor private");
            ask(open || !names.contains(m.getName()), m + " bears the name of a public one");
        }
        for (Field f : ScaleShop.class.getDeclaredFields()) {
            boolean constant = f.getName().equals("NONE") && Modifier.isPublic(f.getModifiers());
            ask(constant || Modifier.isPrivate(f.getModifiers()), f + " is not private");
        }
        Constructor<?>[] made = ScaleShop.class.getDeclaredConstructors();
        ask(made.length == 1 && Modifier.isPublic(made[0].getModifiers()) && made[0].getParameterCount() == 0,
            "the constructors are " + Arrays.toString(made));
        ask(Modifier.isFinal(ScaleShop.class.getModifiers()), "the class is not final");
        ask(ScaleShop.class.getField("NONE").getInt(null) == -1, "NONE is not -1");
    }

    private static void classesInside() {
        Class<?>[] inside = ScaleShop.class.getDeclaredClasses();
        ask(inside.length <= 11, "there are " + (inside.length + 1) + " classes");
        for (Class<?> c : inside) {
            ask(Modifier.isStatic(c.getModifiers()) && !Modifier.isPublic(c.getModifiers())
                && !Modifier.isProtected(c.getModifiers()), c + " is not static or too open");
            ask(c.getDeclaredClasses().length == 0, c + " has classes inside");
            fieldsAreFew(c);
        }
        fieldsAreFew(ScaleShop.class);
    }

    private static void fieldsAreFew(Class<?> c) {
        int fields = 0;
        for (Field f : c.getDeclaredFields()) {
            if (Modifier.isStatic(f.getModifiers())) {
                ask(Modifier.isFinal(f.getModifiers()), f + " is static and not final");
            } else {
                fields++;
            }
        }
        ask(fields <= 20, c + " has " + fields + " fields");
        for (Method m : c.getDeclaredMethods()) {
            ask(m.getParameterCount() <= 7, m + " has too many parameters");
            ask(m.getExceptionTypes().length == 0, m + " throws");
        }
    }

    private static String bareSource() throws Exception {
        String text = Files.readString(Path.of("src/main/java/ScaleShop.java"));
        return text.replaceAll("(?s)/\\*.*?\\*/", "").replaceAll("//[^\n]*", "");
    }

    private static void sourceIsWithinTheRules() throws Exception {
        String text = bareSource();
        String[] words = {"throw", "throws", "try", "catch", "finally", "synchronized", "assert", "package", "native",
            "volatile", "transient", "float", "double", "equals", "hashCode", "toString", "Thread", "Object", "Random",
            "System", "var", "protected", "Exception"};
        for (String word : words) {
            ask(!Pattern.compile("\\b" + word + "\\b").matcher(text).find(), "the source has the word " + word);
        }
        for (String sign : new String[] {"->", "::", "\"", "@", "Exact", "static {"}) {
            ask(!text.contains(sign), "the source has " + sign);
        }
        Matcher imports = Pattern.compile("import ([^;]*);").matcher(text);
        while (imports.find()) {
            ask(imports.group(1).equals("java.util.ArrayList"), "the source imports " + imports.group(1));
        }
        Matcher library = Pattern.compile("\\b(Math|Integer|Long)\\.(\\w+)").matcher(text);
        while (library.find()) {
            ask(List.of("max", "min", "abs").contains(library.group(2)), "the source uses " + library.group());
        }
    }

    private static void methodsAreShort() throws Exception {
        String[] lines = Files.readString(Path.of("src/main/java/ScaleShop.java")).split("\n");
        int begin = -1;
        String indent = "";
        for (int i = 0; i < lines.length; i++) {
            Matcher head = Pattern.compile("^( {4}| {8})[A-Za-z].*\\) \\{$").matcher(lines[i]);
            if (head.find()) {
                begin = i;
                indent = head.group(1);
            } else if (begin >= 0 && lines[i].equals(indent + "}")) {
                ask(i - begin < 60, "a method of " + (i - begin) + " lines begins at line " + (begin + 1));
                begin = -1;
            }
            ask(lines[i].length() <= 120, "line " + (i + 1) + " is long");
        }
    }

    /** Who calls whom, the library's methods too; a constructor's calls are those of its class's fields as well. */
    private static final class Calls extends TreePathScanner<Void, Void> {
        private final Map<String, Set<String>> made = new LinkedHashMap<>();
        private final Trees trees;
        private String method = "";
        private String type = "";

        Calls(Trees trees) {
            this.trees = trees;
        }

        private static String name(Element called) {
            return called.getEnclosingElement() + "." + called;
        }

        @Override
        public Void visitClass(ClassTree tree, Void nothing) {
            String outerType = type;
            String outerMethod = method;
            type = trees.getElement(getCurrentPath()).toString();
            method = type + ".fields";
            super.visitClass(tree, nothing);
            type = outerType;
            method = outerMethod;
            return null;
        }

        @Override
        public Void visitMethod(MethodTree tree, Void nothing) {
            String outer = method;
            method = name(trees.getElement(getCurrentPath()));
            made.computeIfAbsent(method, key -> new LinkedHashSet<>());
            if (tree.getName().contentEquals("<init>")) {
                made.get(method).addAll(made.getOrDefault(type + ".fields", Set.of()));
            }
            super.visitMethod(tree, nothing);
            method = outer;
            return null;
        }

        private void note() {
            made.computeIfAbsent(method, key -> new LinkedHashSet<>()).add(name(trees.getElement(getCurrentPath())));
        }

        @Override
        public Void visitMethodInvocation(MethodInvocationTree tree, Void nothing) {
            // The call of super() that javac puts into each constructor is none of ours.
            if (!tree.getMethodSelect().toString().equals("super")) {
                note();
            }
            return super.visitMethodInvocation(tree, nothing);
        }

        @Override
        public Void visitNewClass(NewClassTree tree, Void nothing) {
            note();
            return super.visitNewClass(tree, nothing);
        }

        /** The longest chain of calls that begins with one; a method that comes again ends the chain. */
        String deepest(String from, String before) {
            String chain = before.isEmpty() ? from : before + " > " + from;
            if (List.of(before.split(" > ")).contains(from)) {
                return chain + " (again)";
            }
            String longest = chain;
            for (String called : made.getOrDefault(from, Set.of())) {
                String other = deepest(called, chain);
                if (other.endsWith("(again)")) {
                    return other;
                }
                longest = other.split(" > ").length > longest.split(" > ").length ? other : longest;
            }
            return longest;
        }
    }

    private static void callsAreNotDeep() throws Exception {
        JavaCompiler compiler = ToolProvider.getSystemJavaCompiler();
        try (StandardJavaFileManager files = compiler.getStandardFileManager(null, null, null)) {
            JavacTask task = (JavacTask) compiler.getTask(null, files, null, List.of("-proc:none"), null,
                files.getJavaFileObjects("src/main/java/ScaleShop.java"));
            Calls calls = new Calls(Trees.instance(task));
            Iterable<? extends Tree> units = task.parse();
            task.analyze();
            for (Tree unit : units) {
                calls.scan(unit, null);
            }
            String longest = "";
            for (String from : calls.made.keySet()) {
                String chain = calls.deepest(from, "");
                ask(!chain.endsWith("(again)"), "a method comes back to itself: " + chain);
                longest = chain.split(" > ").length > longest.split(" > ").length ? chain : longest;
            }
            int depth = longest.split(" > ").length;
            System.out.println("calls go " + depth + " deep: " + longest);
            ask(calls.made.size() > 100 && depth > 1, "the calls were not found");
            ask(depth <= 8, "calls go too deep");
        }
    }

    private static int some(Random random, int total) {
        int kind = random.nextInt(10);
        if (kind == 0) {
            return ODD[random.nextInt(ODD.length)];
        }
        if (kind == 1) {
            return random.nextInt();
        }
        return random.nextInt(kind < 7 ? Math.max(1, total) : 41);
    }

    /** Any numbers in any state; a call that throws ends the test with its trace. */
    private static void nothingIsThrown() {
        for (int run = 0; run < 3000; run++) {
            Random random = new Random(run);
            ScaleShop x = new ScaleShop();
            for (int call = 0; call < 512; call++) {
                int[] a = new int[5];
                for (int i = 0; i < a.length; i++) {
                    a[i] = some(random, x.count(0));
                }
                wildCall(x, call < 150 ? random.nextInt(12) : 8 + random.nextInt(29), a);
                ask(x.status() >= 0 && x.status() <= 8, "a status that is none");
            }
        }
    }

    private static void wildCall(ScaleShop x, int which, int[] a) {
        switch (which) {
            case 0: case 1: case 2: x.feature(Math.floorMod(a[0], 8), a[1] % 12, a[2] % 120, a[3] % 12); break;
            case 3: case 4: case 5: case 6: case 7: case 8: x.corner(a[0], a[1], a[2]); break;
            case 9: case 10: x.done(a[0]); break;
            case 11: x.tear(a[0]); break;
            case 12: x.plainer(a[0], a[1]); break;
            case 13: x.smooth(a[0]); break;
            case 14: case 15: x.shift(a[0], a[1], a[2], a[3], a[4]); break;
            case 16: x.grow(a[0]); break;
            case 17: x.square(a[0], a[1]); break;
            case 18: x.join(a[0], a[1], a[2]); break;
            case 19: x.drop(a[0]); break;
            case 20: x.few(a[0], a[1]); break;
            case 21: x.choose(); break;
            case 22: x.run(a[0]); break;
            case 23: x.undo(); break;
            case 24: x.redo(); break;
            case 25: x.meets(a[0], a[1]); break;
            case 26: x.inside(a[0], a[1], a[2]); break;
            case 27: x.side(a[0], a[1], a[2], a[3]); break;
            case 28: x.near(a[0], a[1], a[2] % 3); break;
            case 29: x.clashes(a[0]); break;
            case 30: x.clash(a[0], a[1], a[2] % 3); break;
            case 31: x.far(a[0], a[1] % 3); break;
            case 32: x.size(a[0]); break;
            case 33: x.at(a[0], a[1], a[2] % 3); break;
            case 34: x.told(a[0], a[1] % 13); break;
            case 35: x.step(a[0], a[1] % 6); break;
            default: x.count(a[0] % 10);
        }
    }

    /** The dearest calls one after the other: all that a run makes lives in one room of 7.3 million elements. */
    private static void roomIsKept() {
        com.sun.management.ThreadMXBean bean = (com.sun.management.ThreadMXBean) ManagementFactory.getThreadMXBean();
        long before = bean.getThreadAllocatedBytes(Thread.currentThread().getId());
        ScaleShop x = new ScaleShop();
        int calls = 0;
        for (int i = 0; i < 6; i++) {
            int f = x.feature(1, 0, 0, 0);
            for (int k = 0; k < 40; k++) {
                x.corner(f, 20 * k, 100 * i + 10 * (k % 2));
            }
            x.done(f);
            calls += 42;
        }
        for (; calls + 2 <= 512; calls += 2) {
            ask(x.run(2000000) == 6 * 38, "run() took " + x.count(4));
            ask(x.undo() == 1, "undo");
        }
        long bytes = bean.getThreadAllocatedBytes(Thread.currentThread().getId()) - before;
        System.out.println("a dear run makes " + bytes + " bytes");
        ask(bytes < 4L * 7300000 / 4, "a run takes more than a quarter of the room");
    }
}
