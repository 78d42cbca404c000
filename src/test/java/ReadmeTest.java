import java.io.IOException;
import java.lang.reflect.Method;
import java.lang.reflect.Modifier;
import java.nio.file.DirectoryStream;
import java.nio.file.Files;
import java.nio.file.Path;
import java.util.ArrayList;
import java.util.List;

/** README.md: its example is the one that runs here, and it names every call and every test. Runs in the root. */
public final class ReadmeTest {
    private static final Path README = Path.of("README.md");
    private static final Path TESTS = Path.of("src/test/java");

    private static final Check check = new Check();

    public static void main(String[] args) throws IOException {
        exampleAnswersAsTold();
        exampleIsThatOfTheReadme();
        everyCallIsNamed();
        everyTestIsNamed();
        check.end("ReadmeTest");
    }

    private static void exampleAnswersAsTold() {
        // example
        LotRules x = new LotRules(4);         // periods 1 to 4
        int wheel = x.item();                 // items are numbered from 0
        int car = x.item();
        x.set(wheel, 0, 50);                  // SETUP price
        x.set(wheel, 1, 2);                   // HOLD price
        x.need(wheel, 2, 6);
        x.need(car, 3, 5);
        x.part(wheel, car, 4);                // four wheels in each car
        x.make(wheel, 1, 20);                 // a lot of 20 wheels in period 1
        x.make(car, 2, 3);
        int wanted = x.gross(wheel, 2);       // 6 + 4 * 3 = 18
        long kept = x.stock(wheel, 2);        // 20 - 18 = 2
        long lacking = x.stock(car, 3);       // 3 - 5 = -2: two cars are owed
        int stands = x.stands(2);             // the machine stands for car then
        long paid = x.price(3);               // 50 for the set-up, 2 * (20 + 2 + 2 + 2) for what is kept
        int broken = x.faults();              // 2: cars are owed at the ends of periods 3 and 4
        int kind = x.fault(0, 0);             // 1: something is owed
        int when = x.fault(0, 1);             // in period 3
        long least = x.best(wheel);           // wheels alone: a lot in period 2 costs 50
        int bestLot = x.lot(wheel, 2);        // and is of 6
        long setUpShare = x.share(0, 3);      // 1000 * 50 / 102 = 490
        // end of the example
        check.same("wheel", wheel, 0);
        check.same("wanted", wanted, 18);
        check.same("kept", kept, 2);
        check.same("lacking", lacking, -2);
        check.same("stands", stands, car);
        check.same("paid", paid, 50 + 2 * (20 + 2 + 2 + 2));
        check.same("broken", broken, 2);
        check.same("kind", kind, 1);
        check.same("when", when, 3);
        check.same("the other one's period", x.fault(1, 1), 4);
        check.same("least", least, 50);
        check.same("bestLot", bestLot, 6);
        check.same("setUpShare", setUpShare, 490);
    }

    private static void exampleIsThatOfTheReadme() throws IOException {
        List<String> told = between(README, "```java", "```");
        List<String> run = between(TESTS.resolve("ReadmeTest.java"), "// example", "// end of the example");
        check.holds("there is an example", !told.isEmpty());
        check.holds("README's example is the one that runs here", told.equals(run));
    }

    /** The lines between two lines, without the blanks at their ends. */
    private static List<String> between(Path file, String first, String end) throws IOException {
        List<String> lines = new ArrayList<>();
        boolean inside = false;
        for (String line : Files.readAllLines(file)) {
            String text = line.strip();
            if (inside && text.equals(end)) {
                return lines;
            }
            if (inside) {
                lines.add(text);
            }
            inside |= text.equals(first);
        }
        return lines;
    }

    private static void everyCallIsNamed() throws IOException {
        String text = Files.readString(README);
        check.holds("the constructor is named", text.contains("| `new LotRules(periods)` |"));
        for (Method m : LotRules.class.getDeclaredMethods()) {
            if (Modifier.isPublic(m.getModifiers())) {
                check.holds(m.getName() + " is named", text.contains("| `" + m.getName() + "("));
            }
        }
    }

    private static void everyTestIsNamed() throws IOException {
        String text = Files.readString(README);
        try (DirectoryStream<Path> files = Files.newDirectoryStream(TESTS, "*Test.java")) {
            for (Path file : files) {
                String name = file.getFileName().toString().replace(".java", "");
                check.holds(name + " is named", text.contains("| `" + name + "` |"));
            }
        }
    }
}
