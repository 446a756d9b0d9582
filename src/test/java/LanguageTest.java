import java.lang.reflect.Constructor;
import java.lang.reflect.Field;
import java.lang.reflect.Method;
import java.lang.reflect.Modifier;
import java.nio.file.Files;
import java.nio.file.Path;
import java.util.ArrayList;
import java.util.Collections;
import java.util.List;
import java.util.regex.Matcher;
import java.util.regex.Pattern;

/** The face, and the rules of LANGUAGE.md that a look at the class or its source can tell. */
public final class LanguageTest {
    private static final String[] FACE = {"write 1", "erase 0", "fault 0", "cave 0", "man 2", "sheep 2", "near 1", "as 2",
        "give 1", "day 0", "blind 1", "hide 2", "morning 0", "undo 0", "keep 1", "back 1", "soon 1", "plan 1", "feel 2",
        "names 1", "came 1", "seen 3", "forget 0", "strong 2", "boasts 5", "count 1"};

    public static void main(String[] args) throws Exception {
        constants();
        face();
        rooms();
        source();
        Checks.end("LanguageTest");
    }

    private static void constants() {
        Checks.due("NONE", NobodyCave.NONE, -1);
        Checks.due("UNKNOWN", NobodyCave.UNKNOWN, -2);
        Checks.due("OUTSIDE", NobodyCave.OUTSIDE, -3);
        Checks.due("NOT", NobodyCave.NOT, -4);
        Checks.due("FULL", NobodyCave.FULL, -5);
    }

    private static void face() {
        List<String> found = new ArrayList<>();
        List<String> hidden = new ArrayList<>();
        for (Method m : NobodyCave.class.getDeclaredMethods()) {
            if (Modifier.isPrivate(m.getModifiers())) {
                hidden.add(m.getName());
            } else if (!m.isSynthetic()) {
                Checks.due(m + " is public and answers int", Modifier.isPublic(m.getModifiers())
                        && !Modifier.isStatic(m.getModifiers()) && m.getReturnType() == int.class ? 1 : 0, 1);
                found.add(m.getName() + " " + m.getParameterCount());
            }
        }
        List<String> want = new ArrayList<>(List.of(FACE));
        Collections.sort(found);
        Collections.sort(want);
        Checks.due("the face is " + found, found.equals(want) ? 1 : 0, 1);
        for (String name : hidden) {
            for (String open : FACE) {
                Checks.due("a private " + name, open.startsWith(name + " ") ? 1 : 0, 0);
            }
        }
        int open = 0;
        for (Field f : NobodyCave.class.getDeclaredFields()) {
            open += Modifier.isPrivate(f.getModifiers()) ? 0 : 1;
            Checks.due(f + ": a static field is final",
                    Modifier.isStatic(f.getModifiers()) && !Modifier.isFinal(f.getModifiers()) ? 1 : 0, 0);
        }
        Checks.due("fields that are not private", open, 5);
        for (Constructor<?> c : NobodyCave.class.getDeclaredConstructors()) {
            Checks.due("the constructor", Modifier.isPublic(c.getModifiers()) && c.getParameterCount() == 0 ? 1 : 0, 1);
        }
        Checks.due("the class", NobodyCave.class.getModifiers(), Modifier.PUBLIC | Modifier.FINAL);
    }

    private static void rooms() {
        Class<?>[] inside = NobodyCave.class.getDeclaredClasses();
        Checks.due("so few classes", inside.length <= 11 ? 1 : 0, 1);
        for (Class<?> c : inside) {
            Checks.due(c + " is static", Modifier.isStatic(c.getModifiers()) ? 1 : 0, 1);
            int fields = 0;
            for (Field f : c.getDeclaredFields()) {
                fields += Modifier.isStatic(f.getModifiers()) ? 0 : 1;
            }
            Checks.due(c + " has so few fields", fields <= 20 ? 1 : 0, 1);
        }
    }

    private static void source() throws Exception {
        String text = Files.readString(Path.of("src/main/java/NobodyCave.java"));
        String code = text.replaceAll("(?s)/\\*.*?\\*/", "").replaceAll("//[^\n]*", "");
        for (String word : new String[] {"throw", "throws", "try", "catch", "finally", "synchronized", "assert", "import",
            "package", "protected", "native", "volatile", "Random", "Thread", "Object", "hashCode", "toString", "->", "::"}) {
            Pattern whole = Pattern.compile(Character.isLetter(word.charAt(0)) ? "\\b" + word + "\\b" : word);
            Matcher m = whole.matcher(code);
            Checks.due("'" + word + "' stands in the source", m.find() ? 1 : 0, 0);
        }
        for (String call : new String[] {"System", "Math", "Integer"}) {
            Matcher m = Pattern.compile("\\b" + call + "\\.(\\w+)").matcher(code);
            while (m.find()) {
                Checks.due(m.group(), List.of("arraycopy", "min", "max", "bitCount").contains(m.group(1)) ? 1 : 0, 1);
            }
        }
        for (int i = 0; i < text.length(); i++) {
            Checks.due("sign " + i, text.charAt(i) < 128 ? 1 : 0, 1);
        }
    }
}
