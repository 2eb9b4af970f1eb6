import java.io.IOException;
import java.lang.reflect.Method;
import java.lang.reflect.Modifier;
import java.nio.file.Files;
import java.nio.file.Path;
import java.util.ArrayDeque;
import java.util.Deque;
import java.util.List;
import java.util.stream.Stream;

/** README.md tells the truth: each answer of its example, each call of the face and each test. */
public final class ReadmeTest {
    /** The lines of the example that tell an answer, in their order; those that were met are taken away. */
    private static final Deque<String> told = new ArrayDeque<>();

    public static void main(String[] args) throws IOException {
        List<String> lines = Files.readAllLines(Path.of("README.md"));
        int begin = lines.indexOf("```java");
        for (int i = begin + 1; begin >= 0 && i < lines.size() && !lines.get(i).equals("```"); i++) {
            if (lines.get(i).contains("// ")) {
                told.add(lines.get(i));
            }
        }
        example();
        Check.same("lines of the example that no answer is known to", told.size(), 0);
        everyCall(String.join("\n", lines));
        everyTest(String.join("\n", lines));
        Check.end("ReadmeTest");
    }

    private static void example() {
        CrowdSimulator crowd = new CrowdSimulator();
        answer("setCell(5, 0, 0)", crowd.setCell(5, 0, 0));
        answer("setGoal(0, 13, 0)", crowd.setGoal(0, 13, 0));
        answer("distance(0, 0, 0)", crowd.distance(0, 0, 0));
        answer("flow(0, 4, 0)", crowd.flow(0, 4, 0));
        answer("add(0, 0, 0, 5)", crowd.add(0, 0, 0, 5));
        answer("add(0, 1, -1, 2)", crowd.add(0, 1, -1, 2));
        answer("join(1, 0, 0, 1)", crowd.join(1, 0, 0, 1));
        answer("forecast(0)", crowd.forecast(0));
        answer("tick(15)", crowd.tick(15));
        answer("agents(1)", crowd.agents(1));
        answer("agent(1, 0)", crowd.agent(1, 0));
        answer("statistic(1)", crowd.statistic(1));
        for (char letter : "11/1#".toCharArray()) {
            crowd.feed(letter);
        }
        answer("readMap()", crowd.readMap());
        answer("map(16)", "'" + crowd.map(16) + "'");
        answer("undo()", crowd.undo());
        answer("undo()", crowd.undo());
        answer("agents(1)", crowd.agents(1));
    }

    private static void answer(String call, Object got) {
        String line = told.isEmpty() ? "" : told.remove();
        int comment = Math.max(line.indexOf("// "), 0);
        Check.same("the call in line " + line, line.substring(0, comment).trim(), "crowd." + call + ";");
        Check.same("the answer in line " + line, line.substring(comment).startsWith("// " + got + ": ") ? 1 : 0, 1);
    }

    private static void everyCall(String readme) {
        for (Method method : CrowdSimulator.class.getDeclaredMethods()) {
            if (Modifier.isPublic(method.getModifiers())) {
                named(readme, method.getName());
            }
        }
    }

    private static void everyTest(String readme) throws IOException {
        try (Stream<Path> files = Files.list(Path.of("src/test/java"))) {
            files.map(file -> file.getFileName().toString()).filter(name -> name.endsWith("Test.java"))
                .forEach(name -> named(readme, name.substring(0, name.length() - ".java".length())));
        }
    }

    private static void named(String readme, String name) {
        Check.same("README.md names " + name, readme.contains("`" + name + "`") ? 1 : 0, 1);
    }
}
