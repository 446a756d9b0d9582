import java.lang.reflect.Method;
import java.lang.reflect.Modifier;
import java.nio.file.Files;
import java.nio.file.Path;
import java.util.regex.Matcher;
import java.util.regex.Pattern;

/** README.md tells the truth: its calls answer what stands behind them, and it names every call there is. */
public final class ReadmeTest {
    private static final Pattern TEXT = Pattern.compile("for \\(char letter : \"(.*)\"\\.toCharArray\\(\\)\\) \\{");
    private static final Pattern CALL = Pattern.compile("cave\\.(\\w+)\\((.*)\\);\\s+// (\\w+|-\\d+): .*");

    public static void main(String[] args) throws Exception {
        String readme = Files.readString(Path.of("README.md"));
        int calls = 0;
        NobodyCave cave = new NobodyCave();
        for (String line : example(readme).split("\n")) {
            Matcher text = TEXT.matcher(line);
            Matcher call = CALL.matcher(line);
            if (text.matches()) {
                Checks.type(cave, text.group(1));
            } else if (call.matches()) {
                Checks.due(line, answer(cave, call.group(1), call.group(2)), number(call.group(3)));
                calls++;
            } else {
                Checks.due("a line that is understood: " + line, isFrame(line) ? 1 : 0, 1);
            }
        }
        Checks.due("the example has calls", calls > 0 ? 1 : 0, 1);
        namesEachCall(readme);
        Checks.end("ReadmeTest");
    }

    private static String example(String readme) {
        int begin = readme.indexOf("```java\n");
        int end = readme.indexOf("\n```\n", begin + 1);
        Checks.due("README.md has an example", begin >= 0 && end > begin ? 1 : 0, 1);
        return begin >= 0 && end > begin ? readme.substring(begin + 8, end) : "";
    }

    private static boolean isFrame(String line) {
        String bare = line.trim();
        return bare.isEmpty() || bare.equals("}") || bare.equals("cave.write(letter);")
                || bare.equals("NobodyCave cave = new NobodyCave();");
    }

    private static int answer(NobodyCave cave, String name, String written) throws Exception {
        String[] parts = written.isEmpty() ? new String[0] : written.split(", ");
        Class<?>[] kinds = new Class<?>[parts.length];
        Object[] numbers = new Object[parts.length];
        for (int i = 0; i < parts.length; i++) {
            kinds[i] = int.class;
            numbers[i] = number(parts[i].replace("NobodyCave.", ""));
        }
        return (Integer) NobodyCave.class.getMethod(name, kinds).invoke(cave, numbers);
    }

    private static int number(String written) throws Exception {
        if (Character.isLetter(written.charAt(0))) {
            return NobodyCave.class.getField(written).getInt(null);
        }
        return Integer.parseInt(written);
    }

    private static void namesEachCall(String readme) {
        for (Method m : NobodyCave.class.getDeclaredMethods()) {
            if (Modifier.isPublic(m.getModifiers())) {
                String parts = m.getParameterCount() == 0 ? "" : "\\w+(, \\w+){" + (m.getParameterCount() - 1) + "}";
                Matcher told = Pattern.compile("(?m)^\\|.*`" + m.getName() + "\\(" + parts + "\\)`.*\\|$").matcher(readme);
                Checks.due("README.md tells of " + m.getName(), told.find() ? 1 : 0, 1);
            }
        }
    }
}
