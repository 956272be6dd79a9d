import java.io.IOException;
import java.lang.reflect.Field;
import java.lang.reflect.Method;
import java.lang.reflect.Modifier;
import java.nio.file.Files;
import java.nio.file.Path;
import java.util.regex.Matcher;
import java.util.regex.Pattern;

/** README.md tells how to use the class: its run gives the answers that it shows, and no public name is missing. */
public final class ReadmeTest {
    private static final Pattern BLOCK = Pattern.compile("(?s)```java\n(.*?)```");
    private static final Pattern MADE = Pattern.compile("new SealedAuditLog\\((\\d+), (\\d+)\\);");
    private static final Pattern CALL = Pattern.compile("log\\.(\\w+)\\(([^)]*)\\); *// ([\\w-]+).*");

    public static void main(String[] args) throws IOException, ReflectiveOperationException {
        String text = Files.readString(Path.of("README.md"));
        Checks checks = new Checks();
        run(checks, text);
        names(checks, text);
        checks.end();
    }

    private static void run(Checks checks, String text) throws ReflectiveOperationException {
        checks.says("A run, with the answer of each call");
        Matcher block = BLOCK.matcher(text);
        checks.due("README.md has a run", block.find(), true);
        String[] lines = block.group(1).split("\n+");
        Matcher made = MADE.matcher(lines[0]);
        checks.due("the run begins with a new object", made.find(), true);
        SealedAuditLog log = new SealedAuditLog(value(made.group(1)), value(made.group(2)));
        for (int n = 1; n < lines.length; n++) {
            Matcher call = CALL.matcher(lines[n]);
            checks.due("a call and its answer: " + lines[n], call.matches(), true);
            Object answer = answer(log, call.group(1), call.group(2));
            if (answer != null) {
                checks.due(lines[n], number(answer), value(call.group(3)));
            }
        }
    }

    private static Object answer(SealedAuditLog log, String name, String list) throws ReflectiveOperationException {
        String[] words = list.isEmpty() ? new String[0] : list.split(", ");
        Class<?>[] types = new Class<?>[words.length];
        Object[] values = new Object[words.length];
        for (int n = 0; n < words.length; n++) {
            types[n] = int.class;
            values[n] = value(words[n].replace("SealedAuditLog.", ""));
        }
        return SealedAuditLog.class.getMethod(name, types).invoke(log, values);
    }

    private static int number(Object answer) {
        if (answer instanceof Boolean) {
            return (Boolean) answer ? 1 : 0;
        }
        return (Integer) answer;
    }

    /** A number, true or false, or a constant of the class. */
    private static int value(String word) throws ReflectiveOperationException {
        if (word.matches("-?\\d+")) {
            return Integer.parseInt(word);
        }
        if (word.equals("true") || word.equals("false")) {
            return word.equals("true") ? 1 : 0;
        }
        return SealedAuditLog.class.getField(word).getInt(null);
    }

    private static void names(Checks checks, String text) {
        checks.says("Call, What it does, Answers");
        for (Method method : SealedAuditLog.class.getDeclaredMethods()) {
            if (Modifier.isPublic(method.getModifiers())) {
                checks.due(method + " has a row", text.contains("\n| `" + method.getName() + "("), true);
            }
        }
        for (Field field : SealedAuditLog.class.getFields()) {
            boolean size = field.getName().matches("MIN_.*|MAX_.*|KIND_.*");
            checks.due(field + " is named", size || text.contains("`" + field.getName() + "`"), true);
        }
    }
}
