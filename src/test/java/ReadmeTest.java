import java.io.IOException;
import java.lang.reflect.Method;
import java.lang.reflect.Modifier;
import java.nio.file.Files;
import java.nio.file.Path;
import java.util.List;
import java.util.stream.Stream;

/** README.md says how to use the class and how to run its tests: its example runs as it says, and it names all there is. */
public final class ReadmeTest {
    private static final Due DUE = new Due("ReadmeTest");
    private static final Path TESTS = Path.of("src/test/java");

    public static void main(String[] args) throws IOException {
        String readme = Files.readString(Path.of("README.md"));
        example();
        exampleIsTheOneThatRuns(readme);
        namesEveryCall(readme);
        namesEveryTest(readme);
        DUE.end();
    }

    private static void example() {
        HutLift office = new HutLift();
        int hut = office.place(3, 10);
        int machine = office.machine(60, 300);
        int pilot = office.pilot(200, 15);
        int load = office.load(100 * hut + 3, 20, 0, 100);
        office.feed(3, 'w' | '6' << 8 | '<' << 16);
        int rule = office.rule();
        office.hang(machine, load);
        int why = office.may(machine, pilot, hut);
        int flight = office.fly(machine, pilot, hut);
        office.minute(10);
        int shelved = office.cargo(load, 3);
        office.list(hut);
        int end = office.order(machine, pilot);

        DUE.is("the hut", hut, 1);
        DUE.is("the rule", rule, 0);
        DUE.is("why", why, 0);
        DUE.is("the flight", flight, 0);
        DUE.is("shelved", shelved, 10);
        DUE.is("end", end, 59);
    }

    private static void exampleIsTheOneThatRuns(String readme) throws IOException {
        List<String> run = Files.readAllLines(TESTS.resolve("ReadmeTest.java")).stream().map(String::trim).toList();
        int from = readme.indexOf("```java\n");
        DUE.holds("there is an example", from >= 0);
        String block = readme.substring(from + 8, readme.indexOf("```\n", from + 8));
        for (String line : block.split("\n")) {
            String code = line.replaceAll("//.*", "").trim();
            DUE.holds("a line of the example does not run: " + code, run.contains(code));
        }
    }

    private static void namesEveryCall(String readme) {
        for (Method m : HutLift.class.getDeclaredMethods()) {
            if (Modifier.isPublic(m.getModifiers())) {
                DUE.holds("README.md does not say " + m.getName(), readme.contains("`" + m.getName() + "("));
            }
        }
    }

    private static void namesEveryTest(String readme) throws IOException {
        DUE.holds("README.md does not say .ci/run", readme.contains("\n.ci/run\n"));
        try (Stream<Path> files = Files.list(TESTS)) {
            files.map(file -> file.getFileName().toString()).filter(name -> name.endsWith("Test.java")).forEach(name ->
                    DUE.holds("README.md does not say " + name, readme.contains("| " + name.replace(".java", "") + " |")));
        }
    }
}
