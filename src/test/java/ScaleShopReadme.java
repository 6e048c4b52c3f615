import java.lang.reflect.Method;
import java.lang.reflect.Modifier;
import java.nio.file.Files;
import java.nio.file.Path;
import java.util.List;
import java.util.TreeSet;
import java.util.regex.Matcher;
import java.util.regex.Pattern;
import java.util.stream.Collectors;
import java.util.stream.Stream;

/** README.md: its example answers what it says, and it names all calls and tests, and no others. */
public final class ScaleShopReadme {
    private static int wrong = 0;
    private static String text = "";
    private static List<String> example = List.of();
    private static int line = 0;

    public static void main(String[] args) throws Exception {
        text = Files.readString(Path.of("README.md"));
        exampleAnswersAsTold();
        callsAreNamed();
        testsAreNamed();
        statusesAreNamed();
        runIsAsTold();
        System.out.println(wrong == 0 ? "README.md is as due" : wrong + " things are not as due");
        if (wrong != 0) {
            System.exit(1);
        }
    }

    private static void ask(boolean holds, String what) {
        if (!holds) {
            wrong++;
            System.out.println(what);
        }
    }

    private static String between(String begin, String end) {
        int from = text.indexOf(begin);
        int to = from < 0 ? -1 : text.indexOf(end, from + begin.length());
        ask(to >= 0, "README.md has nothing between " + begin + " and " + end);
        return to < 0 ? "" : text.substring(from + begin.length(), to);
    }

    /** The next line of the example is this call, and what stands behind it begins with this answer. */
    private static void says(String call, Object answer) {
        line++;
        String found = line < example.size() ? example.get(line) : "";
        String[] halves = found.split(";\\s*// ");
        ask(halves.length == 2 && halves[0].equals(call), "line " + line + " is no " + call + ": " + found);
        String told = halves.length == 2 ? halves[1].split(":")[0] : "";
        ask(told.equals(answer.toString()), call + " answers " + answer + ", README.md says " + told);
    }

    private static void exampleAnswersAsTold() {
        example = between("```java\n", "```").lines().collect(Collectors.toList());
        ask(!example.isEmpty() && example.get(0).equals("ScaleShop shop = new ScaleShop();"), "no new object");
        ScaleShop shop = new ScaleShop();
        int road = shop.feature(3, 0, 4, 0);
        says("int road = shop.feature(3, 0, 4, 0)", road);
        says("shop.corner(road, 0, 0)", shop.corner(road, 0, 0));
        says("shop.corner(road, 10, 1)", shop.corner(road, 10, 1));
        says("shop.corner(road, 20, 0)", shop.corner(road, 20, 0));
        says("shop.done(road)", shop.done(road));
        says("shop.plainer(road, 19)", shop.plainer(road, 19));
        says("shop.status()", shop.status());
        says("shop.plainer(road, 20)", shop.plainer(road, 20));
        says("shop.far(road, 0)", shop.far(road, 0));
        says("shop.far(road, 1)", shop.far(road, 1));
        says("shop.step(1, 0)", shop.step(1, 0));
        says("shop.undo()", shop.undo());
        says("shop.told(road, 4)", shop.told(road, 4));
        says("shop.redo()", shop.redo());
        says("shop.told(road, 4)", shop.told(road, 4));
        ask(example.size() == line + 1, "the example has " + example.size() + " lines");
    }

    /** Each call has a row of its own in the tables, with as many arguments as it takes. */
    private static void callsAreNamed() {
        TreeSet<String> due = new TreeSet<>();
        for (Method m : ScaleShop.class.getDeclaredMethods()) {
            if (Modifier.isPublic(m.getModifiers())) {
                due.add(m.getName() + " of " + m.getParameterCount());
            }
        }
        TreeSet<String> found = new TreeSet<>();
        Matcher rows = Pattern.compile("(?m)^\\| `(\\w+)\\(([^)]*)\\)` \\|").matcher(text);
        while (rows.find()) {
            String arguments = rows.group(2);
            found.add(rows.group(1) + " of " + (arguments.isEmpty() ? 0 : arguments.split(",").length));
        }
        ask(found.equals(due), "README.md names " + found + ", the class has " + due);
    }

    private static void testsAreNamed() throws Exception {
        TreeSet<String> due = new TreeSet<>();
        try (Stream<Path> files = Files.list(Path.of("src/test/java"))) {
            files.forEach(file -> due.add(file.getFileName().toString().replace(".java", "")));
        }
        TreeSet<String> found = new TreeSet<>();
        Matcher rows = Pattern.compile("(?m)^- `(ScaleShop\\w+)`").matcher(text);
        while (rows.find()) {
            found.add(rows.group(1));
        }
        ask(found.equals(due), "README.md names " + found + ", there are " + due);
    }

    private static void statusesAreNamed() {
        for (int status = 0; status <= 8; status++) {
            boolean named = between("| status | why |", "\n\n").contains("\n| " + status + " | ");
            ask(named, "README.md does not tell status " + status);
        }
    }

    private static void runIsAsTold() throws Exception {
        ask(text.contains("```sh\n.ci/run\n```"), "README.md does not say that .ci/run runs the tests");
        ask(Files.isExecutable(Path.of(".ci/run")), ".ci/run cannot be run");
        String script = Files.readString(Path.of(".ci/run"));
        for (String word : new String[] {"src/test/java", "../shared/tests", "javac", "PASS", "FAIL"}) {
            ask(script.contains(word) && text.contains(word), ".ci/run and README.md do not both tell of " + word);
        }
    }
}
