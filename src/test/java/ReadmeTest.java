import java.io.IOException;
import java.lang.reflect.InvocationTargetException;
import java.lang.reflect.Method;
import java.nio.file.Files;
import java.nio.file.Path;
import java.util.ArrayList;
import java.util.List;
import java.util.regex.Matcher;
import java.util.regex.Pattern;
import java.util.stream.Collectors;
import java.util.stream.Stream;

/** README.md: its example answers as told, no call and no test is left out; run from the folder of the project. */
final class ReadmeTest {
    private static final Pattern CALL = Pattern.compile("warden\\.(\\w+)\\(([-0-9, ]*)\\);\\s*(?:// (-?\\d+)?.*)?");
    private static final Pattern MANY = Pattern.compile("`(\\w+)` \\.\\. `(\\w+)`");

    public static void main(String[] args) throws IOException, ReflectiveOperationException {
        String text = Files.readString(Path.of("README.md"));
        exampleAnswersAsTold(text);
        everyCallIsTold(text);
        everyTestIsNamed(text);
        Check.same("says how to run the tests", text.contains("\n    .ci/run\n") ? 1 : 0, 1);
        Check.finish();
    }

    private static void exampleAnswersAsTold(String text) throws ReflectiveOperationException {
        int from = text.indexOf("```java\n") + 8;
        List<String> lines = text.substring(from, text.indexOf("```", from)).lines().collect(Collectors.toList());
        Check.same("begins with", lines.get(0), "ShadowWarden warden = new ShadowWarden();");
        ShadowWarden warden = new ShadowWarden();
        int told = 0;
        for (String line : lines.subList(1, lines.size())) {
            Matcher call = CALL.matcher(line);
            Check.same("is a call: " + line, call.matches() ? 1 : 0, 1);
            Object answer = call.matches() ? made(warden, call.group(1), call.group(2)) : null;
            if (answer instanceof Integer && call.group(3) != null) {
                told++;
                Check.same(line, answer.toString(), call.group(3));
            }
        }
        Check.same("tells answers", told >= 5 ? 1 : 0, 1);
    }

    private static Object made(ShadowWarden warden, String name, String numbers) throws ReflectiveOperationException {
        Object[] given = Stream.of(numbers.split(", ")).map(Integer::valueOf).toArray();
        for (Method method : ShadowWarden.class.getDeclaredMethods()) {
            if (method.getName().equals(name) && method.getParameterCount() == given.length) {
                try {
                    return method.invoke(warden, given);
                } catch (InvocationTargetException e) {
                    return Integer.MIN_VALUE;
                }
            }
        }
        return Integer.MIN_VALUE;
    }

    private static void everyCallIsTold(String text) {
        for (Method method : ShadowWarden.class.getMethods()) {
            if (method.getDeclaringClass() == ShadowWarden.class) {
                Check.same("tells of " + method.getName(), text.contains("\n| `" + method.getName() + "(") ? 1 : 0, 1);
            }
        }
    }

    private static void everyTestIsNamed(String text) throws IOException {
        List<String> names = new ArrayList<>();
        try (Stream<Path> files = Files.list(Path.of("src/test/java"))) {
            files.forEach(file -> names.add(file.getFileName().toString().replace(".java", "")));
        }
        for (String name : names) {
            boolean inRow = MANY.matcher(text).results()
                    .anyMatch(row -> name.compareTo(row.group(1)) >= 0 && name.compareTo(row.group(2)) <= 0);
            Check.same("names " + name, text.contains("`" + name + "`") || inRow ? 1 : 0, 1);
        }
        Check.same("this one is there", names.contains("ReadmeTest") ? 1 : 0, 1);
    }
}
