import java.io.IOException;
import java.lang.reflect.Field;
import java.lang.reflect.Method;
import java.lang.reflect.Modifier;
import java.nio.file.DirectoryStream;
import java.nio.file.Files;
import java.nio.file.Path;
import java.util.Arrays;
import java.util.Set;
import java.util.TreeSet;
import java.util.regex.Matcher;
import java.util.regex.Pattern;

/** README.md: its examples hold, and it names each constant, each method and each test. */
final class ReadmeTest extends Checks {
    private static final Path README = Path.of("README.md");
    private static final Path TESTS = Path.of("src/test/java");
    private static final String FIRST_ROW = "DryIceLane van = new DryIceLane();";
    private static final Pattern ROW = Pattern.compile("van\\.(\\w+)\\(([^)]*)\\);\\s+// (-?\\d+|[A-Z_]+)( - GONE)?(: .+)?");

    private final Set<String> called = new TreeSet<>();
    private DryIceLane van;
    private int blocks;

    public static void main(String[] args) throws ReflectiveOperationException, IOException {
        String text = Files.readString(README);
        ReadmeTest test = new ReadmeTest();
        test.makeCalls(text);
        due("blocks of examples: one for all, and one for each part of the face", test.blocks, 9);
        for (Method method : DryIceLane.class.getDeclaredMethods()) {
            if (Modifier.isPublic(method.getModifiers())) {
                has("an example of " + method.getName(), test.called.contains(method.getName()));
                has("a row for " + method.getName(), text.contains("\n| `" + method.getName() + "("));
            }
        }
        has("a row for the constructor", text.contains("\n| `new DryIceLane()` |"));
        namesConstants(text);
        namesTests(text);
        end();
    }

    private void makeCalls(String text) throws ReflectiveOperationException {
        boolean inBlock = false;
        for (String row : text.split("\n")) {
            if (row.startsWith("```")) {
                inBlock = row.equals("```java");
                blocks += inBlock ? 1 : 0;
                van = null;
            } else if (inBlock) {
                makeCall(row);
            }
        }
    }

    private void makeCall(String row) throws ReflectiveOperationException {
        if (row.equals(FIRST_ROW)) {
            van = new DryIceLane();
            return;
        }
        Matcher matcher = ROW.matcher(row);
        if (!matcher.matches() || van == null) {
            has("a call behind a new van, with its answer, in the row " + row, false);
            return;
        }
        long want = number(matcher.group(3)) - (matcher.group(4) == null ? 0 : GONE);
        due("README.md: " + row, answer(matcher.group(1), matcher.group(2)), want);
        called.add(matcher.group(1));
    }

    private long answer(String name, String arguments) throws ReflectiveOperationException {
        String[] texts = arguments.isEmpty() ? new String[0] : arguments.split(", ");
        Class<?>[] types = new Class<?>[texts.length];
        Object[] numbers = new Object[texts.length];
        Arrays.fill(types, int.class);
        for (int i = 0; i < texts.length; i++) {
            numbers[i] = number(texts[i]);
        }
        return ((Number) DryIceLane.class.getMethod(name, types).invoke(van, numbers)).longValue();
    }

    /** The number that a text is: a sign's code, a constant, or digits. */
    private static int number(String text) throws ReflectiveOperationException {
        if (text.startsWith("'")) {
            return text.charAt(1);
        }
        String bare = text.replace("DryIceLane.", "");
        return Character.isLetter(bare.charAt(0)) ? DryIceLane.class.getField(bare).getInt(null) : Integer.parseInt(bare);
    }

    /** Errors and settings have rows that tell their numbers, and modes are told in a sentence. */
    private static void namesConstants(String text) throws ReflectiveOperationException {
        for (Field field : DryIceLane.class.getFields()) {
            String name = "`" + field.getName() + "`";
            int number = field.getInt(null);
            has(name + " with its number", text.contains("\n| " + name + " | " + number + " |") || text.contains(name + " (" + number + ")"));
        }
        Pattern setting = Pattern.compile("\\| `([A-Z]+)` \\| \\d+ \\| (\\d+) to (\\d+) \\| (\\d+) \\|");
        Matcher matcher = setting.matcher(text);
        int rows = 0;
        while (matcher.find()) {
            rows++;
            settingIs(number(matcher.group(1)), number(matcher.group(2)), number(matcher.group(3)), number(matcher.group(4)));
        }
        due("rows of settings", rows, 11);
    }

    private static void settingIs(int setting, int least, int most, int first) {
        DryIceLane fresh = new DryIceLane();
        String row = "README.md: the row of setting " + setting + ", ";
        due(row + "one under its least", fresh.set(setting, least - 1), BAD_VALUE);
        due(row + "one over its most", fresh.set(setting, most + 1), BAD_VALUE);
        due(row + "its first", fresh.set(setting, least), first);
        due(row + "its least", fresh.set(setting, most), least);
        due(row + "its most", fresh.set(setting, most), most);
    }

    private static void namesTests(String text) throws IOException {
        int tests = 0;
        try (DirectoryStream<Path> files = Files.newDirectoryStream(TESTS, "*Test.java")) {
            for (Path file : files) {
                tests++;
                String name = file.getFileName().toString().replace(".java", "");
                has("a row for " + name, text.contains("\n| `" + name + "` |"));
            }
        }
        due("rows of tests", Pattern.compile("\n\\| `\\w+Test` \\|").matcher(text).results().count(), tests);
    }

    private static void has(String what, boolean there) {
        due("README.md has " + what, there ? 1 : 0, 1);
    }
}
