import java.lang.reflect.Method;
import java.lang.reflect.Modifier;
import java.nio.file.Files;
import java.nio.file.Path;
import java.util.ArrayList;
import java.util.LinkedHashMap;
import java.util.List;
import java.util.Map;
import java.util.Set;
import java.util.TreeSet;
import java.util.regex.Matcher;
import java.util.regex.Pattern;
import java.util.stream.Collectors;
import java.util.stream.Stream;

/** That README.md's example answers what it says, and that the page names every call and every test. */
public final class ReadmeTest {
    private static final Path TESTS = Path.of("src/test/java");
    private static final Map<String, Integer> ANSWERS = new LinkedHashMap<>();

    private static int wrong = 0;

    public static void main(String[] args) throws Exception {
        String page = Files.readString(Path.of("README.md"));
        example();
        List<String> lines = exampleLines(page);
        standsInThisTest(lines);
        answersAsTold(lines);
        namesEveryCall(page);
        namesEveryTest(page);
        need(page.contains(".ci/run") && Files.isExecutable(Path.of(".ci/run")), ".ci/run");
        System.out.println(wrong == 0 ? "README.md is as due" : wrong + " wrong");
        if (wrong != 0) {
            System.exit(1);
        }
    }

    private static void need(boolean good, String what) {
        if (!good) {
            wrong++;
            System.out.println("README.md: " + what);
        }
    }

    private static void answer(String name, int value) {
        ANSWERS.put(name, value);
    }

    private static void example() {
        IceRegatta x = new IceRegatta();
        int low = x.soundRow(3, 300, 20);
        int windWas = x.wind(2);
        int length = x.course();
        int foot = x.mark(0);
        int head = x.mark(1);
        x.crack(40, true);
        int changed = x.move(3);
        int footNow = x.mark(0);
        int safe = x.hour(-40);

        int bytes = x.feed(0x69636520, 0x3238303b, 0, 0, 0);
        int clauses = x.rule(8);
        int lasts = x.lasts(36, 1);
        x.feed(0x69636520, 0x353b0000, 0, 0, 0);
        int refused = x.rule(5);
        int where = x.fault();

        int first = x.boat();
        int second = x.boat();
        int tack = x.place(first, 500, 500, 1);
        int place = x.finish(second);
        int race = x.end();
        int points = x.points(first, race);
        int best = x.rank(0);
        int inFirst = x.part(1);
        x.noise(4);
        int drawn = x.draw();
        int lot = x.lot(0);

        answer("low", low);
        answer("windWas", windWas);
        answer("length", length);
        answer("foot", foot);
        answer("head", head);
        answer("changed", changed);
        answer("footNow", footNow);
        answer("safe", safe);
        answer("bytes", bytes);
        answer("clauses", clauses);
        answer("lasts", lasts);
        answer("refused", refused);
        answer("where", where);
        answer("first", first);
        answer("second", second);
        answer("tack", tack);
        answer("place", place);
        answer("race", race);
        answer("points", points);
        answer("best", best);
        answer("inFirst", inFirst);
        answer("drawn", drawn);
        answer("lot", lot);
    }

    private static List<String> exampleLines(String page) {
        List<String> lines = new ArrayList<>();
        Matcher block = Pattern.compile("```java\n(.*?)```", Pattern.DOTALL).matcher(page);
        if (block.find()) {
            for (String line : block.group(1).split("\n")) {
                if (!line.isBlank()) {
                    lines.add(line);
                }
            }
        }
        need(!lines.isEmpty(), "no example");
        return lines;
    }

    private static String withoutComment(String line) {
        return line.replaceAll("//.*", "").trim();
    }

    /** So that the example that runs here is the one of the page, line by line. */
    private static void standsInThisTest(List<String> lines) throws Exception {
        String source = Files.readString(TESTS.resolve("ReadmeTest.java"));
        String told = lines.stream().map(ReadmeTest::withoutComment).collect(Collectors.joining("\n"));
        String ran = source.lines().map(String::trim).filter(line -> !line.isEmpty()).collect(Collectors.joining("\n"));
        need(ran.contains("private static void example() {\n" + told + "\nanswer("), "the example is not the one of ReadmeTest");
    }

    private static void answersAsTold(List<String> lines) {
        Set<String> told = new TreeSet<>();
        for (String line : lines) {
            Matcher m = Pattern.compile("int (\\w+) = .*; *// (-?\\d+)(:.*)?").matcher(line);
            if (m.matches()) {
                told.add(m.group(1));
                Integer got = ANSWERS.get(m.group(1));
                need(got != null && got == Integer.parseInt(m.group(2)), line + " answered " + got);
            } else {
                need(!line.contains("int "), "no answer is told: " + line);
            }
        }
        need(told.equals(ANSWERS.keySet()), "answers of " + told);
    }

    private static void namesEveryCall(String page) {
        for (Method m : IceRegatta.class.getDeclaredMethods()) {
            if (Modifier.isPublic(m.getModifiers())) {
                int many = m.getParameterCount();
                String arguments = many == 0 ? "" : "\\w+(, \\w+){" + (many - 1) + "}";
                need(Pattern.compile("`" + m.getName() + "\\(" + arguments + "\\)`").matcher(page).find(), "no call " + m.getName());
            }
        }
    }

    private static void namesEveryTest(String page) throws Exception {
        Set<String> told = new TreeSet<>();
        Matcher row = Pattern.compile("^\\| (\\w+Test) \\|", Pattern.MULTILINE).matcher(page);
        while (row.find()) {
            told.add(row.group(1));
        }
        try (Stream<Path> files = Files.list(TESTS)) {
            Set<String> there = files.map(file -> file.getFileName().toString()).filter(name -> name.endsWith("Test.java"))
                .map(name -> name.replace(".java", "")).collect(Collectors.toCollection(TreeSet::new));
            need(told.equals(there), "tests told " + told + ", there " + there);
        }
    }
}
