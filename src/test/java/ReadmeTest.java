import java.io.IOException;
import java.lang.reflect.Method;
import java.lang.reflect.Modifier;
import java.nio.file.Files;
import java.nio.file.Path;
import java.util.Arrays;
import java.util.List;
import java.util.regex.Matcher;
import java.util.regex.Pattern;
import java.util.stream.Stream;

/** README.md: its examples answer as it tells, and it leaves out no call, constant, word or test. */
public final class ReadmeTest {
    private static final String FACE = "The public face";
    private static final Pattern MADE = Pattern.compile("ProtoMachine m = new ProtoMachine\\((\\d+), (\\d+)\\);");
    private static final Pattern CALLED = Pattern.compile("m\\.(\\w+)\\(([^)]*)\\); +// (-?\\d+): .*");

    private final String text;

    private ReadmeTest(String readme) {
        text = readme;
    }

    public static void main(String[] args) throws IOException, ReflectiveOperationException {
        ReadmeTest test = new ReadmeTest(Files.readString(Path.of("README.md")));
        test.examples();
        test.callsAreTold();
        test.constantsAreTold();
        test.wordsAreTold();
        test.testsAreTold();
        Check.end("ReadmeTest");
    }

    private void tells(String words) {
        Check.holds("README.md tells " + words, text.contains(words));
    }

    private void examples() throws ReflectiveOperationException {
        Matcher block = Pattern.compile("(?s)```java\n(.*?)```").matcher(text);
        int blocks = 0;
        while (block.find()) {
            example(block.group(1).split("\n"));
            blocks++;
        }
        Check.holds("there are examples", blocks > 0);
    }

    private static void example(String[] lines) throws ReflectiveOperationException {
        Matcher made = MADE.matcher(lines[0]);
        Check.holds("an example makes its machine: " + lines[0], made.matches());
        ProtoMachine machine = new ProtoMachine(Integer.parseInt(made.group(1)), Integer.parseInt(made.group(2)));
        for (String line : Arrays.asList(lines).subList(1, lines.length)) {
            Matcher called = CALLED.matcher(line);
            Check.holds("a line is a call with its answer: " + line, called.matches());
            Check.same(line, Integer.parseInt(called.group(3)), answer(machine, called.group(1), called.group(2)));
        }
    }

    private static int answer(ProtoMachine machine, String call, String given) throws ReflectiveOperationException {
        String[] parts = given.isEmpty() ? new String[0] : given.split(", ");
        Class<?>[] types = new Class<?>[parts.length];
        Arrays.fill(types, int.class);
        Object[] values = Stream.of(parts).map(Integer::valueOf).toArray();
        Method method = ProtoMachine.class.getMethod(call, types);
        return (int) method.invoke(machine, values);
    }

    /** Each call of the class in the table, and each as the document names its arguments. */
    private void callsAreTold() {
        for (Method method : ProtoMachine.class.getDeclaredMethods()) {
            if (Modifier.isPublic(method.getModifiers())) {
                tells("| `" + method.getName() + "(");
            }
        }
        tells("`ProtoMachine(nursery, great)`");
        Matcher line = Pattern.compile("public int (\\w+\\(.*?\\));").matcher(Document.text(FACE));
        while (line.find()) {
            tells("| `" + line.group(1).replace("int ", "") + "` |");
        }
    }

    private void constantsAreTold() {
        tells("- `BAD` (" + ProtoMachine.BAD + "): ");
        tells("- `FULL` (" + ProtoMachine.FULL + "): ");
        tells("- `NO_ROOM` (" + ProtoMachine.NO_ROOM + "): ");
    }

    private void wordsAreTold() {
        for (int op = 0; op < Check.OPERATIONS.size(); op++) {
            Pattern cell = Pattern.compile("\\| " + op + " \\| " + Check.OPERATIONS.get(op) + "( a)?( b)? \\|");
            Check.holds("README.md tells " + cell, cell.matcher(text).find());
        }
    }

    private void testsAreTold() throws IOException {
        tells("`.ci/run`");
        try (Stream<Path> files = Files.list(Path.of("src/test/java"))) {
            List<String> names = files.map(file -> file.getFileName().toString().replace(".java", "")).toList();
            for (String name : names) {
                tells("`" + name + "`");
            }
        }
    }
}
