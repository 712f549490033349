import java.io.IOException;
import java.lang.reflect.Field;
import java.lang.reflect.Modifier;
import java.nio.file.DirectoryStream;
import java.nio.file.Files;
import java.nio.file.Path;
import java.util.regex.Matcher;
import java.util.regex.Pattern;

/** README.md names the whole face and every test, and its example answers what it says. */
public final class ReadmeTest {
    private static final Pattern FACE = Pattern.compile("(?m)^    public (int \\w+\\([^)]*\\)|PathWords\\(\\)) \\{");
    private static final Pattern CALL = Pattern.compile("x\\.(\\w+)\\(([^)]*)\\);\\s*// (-?\\d+).*");
    private static final Pattern SAY = Pattern.compile("say\\(x, \"([^\"]*)\"\\);\\s*// (-?\\d+).*");

    private ReadmeTest() {
    }

    public static void main(String[] args) throws IOException, ReflectiveOperationException {
        String page = Files.readString(Path.of("README.md"));
        face(page);
        constants(page);
        tests(page);
        example(page);
        Check.end("ReadmeTest");
    }

    private static void face(String page) throws IOException {
        String source = Files.readString(Path.of(System.getProperty("source", "src/main/java/PathWords.java")));
        Matcher one = FACE.matcher(source);
        int found = 0;
        while (one.find()) {
            found++;
            Check.due("a row for " + one.group(1), page.contains("\n| `" + one.group(1) + "` | ") ? 1 : 0, 1);
        }
        Check.due("the constructor and nineteen methods", found, 20);
    }

    private static void constants(String page) throws IllegalAccessException {
        for (Field f : PathWords.class.getFields()) {
            if (Modifier.isStatic(f.getModifiers())) {
                String row = "\n| `" + f.getName() + "` | " + f.getInt(null) + " | ";
                Check.due("a row for " + f.getName(), page.contains(row) ? 1 : 0, 1);
            }
        }
    }

    private static void tests(String page) throws IOException {
        try (DirectoryStream<Path> all = Files.newDirectoryStream(Path.of("src/test/java"), "*Test.java")) {
            for (Path file : all) {
                String name = file.getFileName().toString().replace(".java", "");
                Check.due("a row for " + name, page.contains("\n| " + name + " | ") ? 1 : 0, 1);
            }
        }
    }

    private static void example(String page) throws ReflectiveOperationException {
        int start = page.indexOf("```java\n");
        int end = page.indexOf("\n```\n", start + 1);
        Check.due("there is an example", start >= 0 && end > start ? 1 : 0, 1);
        String[] lines = page.substring(start, end).split("\n");
        Check.due("it begins with an object", lines[1], "PathWords x = new PathWords();");
        PathWords x = new PathWords();
        for (int i = 2; i < lines.length; i++) {
            line(x, lines[i]);
        }
        Check.due("it has calls", lines.length > 20 ? 1 : 0, 1);
    }

    private static void line(PathWords x, String line) throws ReflectiveOperationException {
        Matcher say = SAY.matcher(line);
        Matcher call = CALL.matcher(line);
        if (say.matches()) {
            int told = 0;
            for (char sign : say.group(1).toCharArray()) {
                told = x.say(sign);
            }
            Check.due(line, told, Integer.parseInt(say.group(2)));
        } else if (call.matches()) {
            Check.due(line, answer(x, call.group(1), call.group(2)), Integer.parseInt(call.group(3)));
        } else {
            Check.due("not a call with its answer: " + line, 0, 1);
        }
    }

    private static int answer(PathWords x, String method, String list) throws ReflectiveOperationException {
        String[] texts = list.isEmpty() ? new String[0] : list.split(", ");
        Class<?>[] types = new Class<?>[texts.length];
        Object[] numbers = new Object[texts.length];
        for (int i = 0; i < texts.length; i++) {
            types[i] = int.class;
            boolean sign = texts[i].startsWith("'");
            numbers[i] = sign ? (int) texts[i].charAt(1) : Integer.parseInt(texts[i]);
        }
        return (Integer) PathWords.class.getMethod(method, types).invoke(x, numbers);
    }
}
