import java.io.IOException;
import java.lang.reflect.Method;
import java.lang.reflect.Modifier;
import java.nio.file.Files;
import java.nio.file.Path;
import java.util.Set;
import java.util.TreeSet;
import java.util.regex.Matcher;
import java.util.regex.Pattern;
import java.util.stream.Collectors;
import java.util.stream.Stream;

/** README.md: what it says of the class and of the tests is true. */
public final class ReadmeTest {
    private static final Path TESTS = Path.of("src/test/java");

    public static void main(String[] args) throws IOException {
        String readme = Files.readString(Path.of("README.md"));
        answersOfTheExample();
        exampleIsTheOneHere(readme);
        contractOfTheText(readme);
        callsAreTheFace(readme);
        filesAreThere(readme);
        Check.end();
    }

    /** The lines up to the checks stand in README.md too, word by word. */
    private static void answersOfTheExample() {
        ScrapYard yard = new ScrapYard();
        int kind = yard.kind();                        // 0
        yard.span(kind, 0, 100, 300);                  // copper: 1 to 3 of a hundred
        int seller = yard.seller();                    // 0
        yard.feed(0x656c7365, 0x20706179, 0x20373b00, 0, 0);   // "else pay 7;" and bytes 0
        int contract = yard.contract(11, seller, 0);   // 0: the first 11 bytes, from day 0 on
        int load = yard.load(seller, kind, 2, 10);     // 0: 10 tons, the topmost layer of heap 2
        long paid = yard.money(seller);                // 70
        yard.asked(0, 0, 300);                         // at most 3 of a hundred of copper
        int cost = yard.best(5);                       // 35, the least cost of 5 tons
        int melt = yard.melt(5);                       // 0
        int left = yard.tons(2);                       // 5
        int proved = yard.prove(melt, 0, 200, 220);    // 1: its copper is 2 to 2.2 of a hundred
        int low = yard.usual(seller, kind, 0, 0);      // 125, put right from 100
        int high = yard.usual(seller, kind, 0, 1);     // 280, put right from 300
        Check.is("the example's kind", kind, 0);
        Check.is("the example's seller", seller, 0);
        Check.is("the example's contract", contract, 0);
        Check.is("the example's load", load, 0);
        Check.is("the example's paid", paid, 70);
        Check.is("the example's cost", cost, 35);
        Check.is("the example's melt", melt, 0);
        Check.is("the example's left", left, 5);
        Check.is("the example's proved", proved, 1);
        Check.is("the example's low", low, 125);
        Check.is("the example's high", high, 280);
    }

    private static void exampleIsTheOneHere(String readme) throws IOException {
        Matcher block = Pattern.compile("```java\n(.*?)```", Pattern.DOTALL).matcher(readme);
        if (!block.find()) {
            Check.tell("README.md has no example");
            return;
        }
        String here = withoutIndent(Files.readString(TESTS.resolve("ReadmeTest.java")));
        if (!here.contains(withoutIndent(block.group(1)))) {
            Check.tell("README.md's example is not the one of this test");
        }
    }

    private static String withoutIndent(String lines) {
        return lines.lines().map(String::strip).collect(Collectors.joining("\n"));
    }

    private static void contractOfTheText(String readme) {
        Matcher text = Pattern.compile("`(grade [^`]*)`").matcher(readme);
        Check.is("README.md's contract is there", text.find() ? 1 : 0, 1);
        ScrapYard yard = new ScrapYard();
        yard.seller();
        Check.is("README.md's contract", Check.contract(yard, text.group(1), 0, 0), 0);
        yard.kind();
        Check.is("README.md's contract takes all", yard.load(0, 0, 0, 1), 0);
        Check.is("README.md's contract: grade", yard.told(0, 4), 2);
        Check.is("README.md's contract: a sample", yard.sample(0, 0, 0, 299), 1);
        Check.is("README.md's contract: grade by copper", yard.told(0, 4), 1);
        Check.is("README.md's contract: another sample", yard.sample(0, 1, 21, 30), 1);
        Check.is("README.md's contract: grade by nickel too", yard.told(0, 4), 0);
        Check.is("README.md's contract: pay", yard.told(0, 5), 90);
    }

    private static void callsAreTheFace(String readme) {
        Set<String> told = new TreeSet<>();
        Matcher row = Pattern.compile("\\| `([a-z]+)\\(([a-z, ]*)\\)` \\|").matcher(readme);
        while (row.find()) {
            int parameters = row.group(2).isEmpty() ? 0 : row.group(2).split(", ").length;
            told.add(row.group(1) + " of " + parameters);
        }
        Set<String> there = new TreeSet<>();
        for (Method method : ScrapYard.class.getDeclaredMethods()) {
            if (Modifier.isPublic(method.getModifiers())) {
                there.add(method.getName() + " of " + method.getParameterCount());
            }
        }
        if (!told.equals(there)) {
            Check.tell("README.md tells the calls " + told + ", there are " + there);
        }
    }

    private static void filesAreThere(String readme) throws IOException {
        Set<String> told = new TreeSet<>();
        Matcher name = Pattern.compile("(?<=[`/])[A-Z][A-Za-z]*\\.java").matcher(readme);
        while (name.find()) {
            told.add(name.group());
        }
        Set<String> there = new TreeSet<>(Set.of("ScrapYard.java"));
        try (Stream<Path> files = Files.list(TESTS)) {
            files.forEach(file -> there.add(file.getFileName().toString()));
        }
        if (!told.equals(there)) {
            Check.tell("README.md tells the files " + told + ", there are " + there);
        }
    }
}
