import java.lang.reflect.Method;
import java.lang.reflect.Modifier;
import java.nio.file.Files;
import java.nio.file.Path;
import java.util.List;
import java.util.stream.Collectors;
import java.util.stream.Stream;

/** README.md: its example answers as it says, and it names every call and every test; run from the project's folder. */
public final class ReadmeTest {
    private static final String TESTS = "src/test/java";

    /** The lines between the fences of README.md, word for word. */
    private static void example() {
        LitDigits x = new LitDigits();
        x.append('8');
        x.append('.');
        x.append('1');
        int signs = x.load();               // 2: slot 0 shows "8.", slot 1 "1", the other slots nothing
        int rounds = x.pass(40);            // 2: 40 ticks go by, two rounds of 18 ticks are ended in them
        int read = x.slotOf(0, 7);          // 8: the sign as which slot 0 is read
        int before = x.slotOf(1, 9);        // 114: how bright slot 1 is
        int together = x.balance(20);       // 20: times by which the slots are as bright as possible alike
        int behind = x.slotOf(1, 9);        // 131: how bright slot 1 is then
        int left = x.undo();                // 2: the times are as before, two saved states are left
        int length = x.write();             // 7: the buffer holds "8.1____"
        Check.due("signs", signs, 2);
        Check.due("rounds", rounds, 2);
        Check.due("read", read, 8);
        Check.due("before", before, 114);
        Check.due("together", together, 20);
        Check.due("behind", behind, 131);
        Check.due("left", left, 2);
        Check.due("length", length, 7);
        Check.due("the buffer is a display", x.firstError(), 7);
        LitDigits y = Check.showing("8.1____");
        x.load();
        for (int slot = 0; slot < 6; slot++) {
            Check.due("the sign of " + slot, x.slotOf(slot, 0), y.slotOf(slot, 0));
            Check.due("the dot of " + slot, x.slotOf(slot, 1), y.slotOf(slot, 1));
        }
    }

    private static void exampleStandsHere(List<String> readme) throws Exception {
        List<String> here = Files.readAllLines(Path.of(TESTS, "ReadmeTest.java"));
        int first = readme.indexOf("```java") + 1;
        int end = first + readme.subList(first, readme.size()).indexOf("```");
        Check.due("the example's lines", end - first, 12);
        int found = 0;
        for (String line : here) {
            if (first + found < end && line.equals("        " + readme.get(first + found))) {
                found++;
            }
        }
        Check.due("the example's lines that stand in this test", found, end - first);
    }

    private static void names(String text) throws Exception {
        for (Method m : LitDigits.class.getDeclaredMethods()) {
            if (Modifier.isPublic(m.getModifiers()) && !text.contains("`" + m.getName() + "(")) {
                Check.report("README.md does not name " + m.getName());
            }
        }
        try (Stream<Path> files = Files.list(Path.of(TESTS))) {
            for (Path file : files.collect(Collectors.toList())) {
                String name = file.getFileName().toString().replace(".java", "");
                if (name.endsWith("Test") && !text.contains("\n| " + name + " |")) {
                    Check.report("README.md does not name " + name);
                }
            }
        }
    }

    public static void main(String[] args) throws Exception {
        List<String> readme = Files.readAllLines(Path.of("README.md"));
        example();
        exampleStandsHere(readme);
        names(String.join("\n", readme));
        Check.end();
    }
}
