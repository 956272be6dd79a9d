import java.io.IOException;
import java.nio.file.Files;
import java.nio.file.Path;
import java.util.LinkedHashMap;
import java.util.Map;
import java.util.Set;
import java.util.TreeSet;
import java.util.regex.Matcher;
import java.util.regex.Pattern;

/** Rules 8 and 10 of LANGUAGE.md, as far as the text of the class shows them. */
public final class CallsTest {
    private static final Path SOURCE = Path.of("src/main/java/SealedAuditLog.java");
    /** A member with a body, which ends with the first brace at the members' own indent. */
    private static final Pattern MEMBER = Pattern.compile("(?ms)^    (?:[a-z]+ )+(\\w+)\\([^)]*\\) \\{\n(.*?)^    \\}");
    private static final Pattern CALL = Pattern.compile("\\b(\\w+)\\(");
    private static final int DEEPEST = 6;
    private static final int LONGEST = 60;

    private final Map<String, String> bodies = new LinkedHashMap<>();
    private final Checks checks = new Checks();

    public static void main(String[] args) throws IOException {
        CallsTest test = new CallsTest();
        test.read(Files.readString(SOURCE).replaceAll("//[^\n]*", ""));
        test.everyMethodIsRead();
        test.depth();
        test.callsInArguments();
        test.lengths();
        test.checks.end();
    }

    private void read(String text) {
        Matcher member = MEMBER.matcher(text);
        while (member.find()) {
            bodies.put(member.group(1), member.group(2));
        }
    }

    private void everyMethodIsRead() {
        checks.says("Private methods and fields as you like", "this test sees each of them");
        int methods = SealedAuditLog.class.getDeclaredMethods().length;
        checks.due("members with a body", bodies.size(), methods + 1);
    }

    private Set<String> calledBy(String text) {
        Set<String> names = new TreeSet<>();
        Matcher call = CALL.matcher(text);
        while (call.find()) {
            if (bodies.containsKey(call.group(1))) {
                names.add(call.group(1));
            }
        }
        return names;
    }

    private void depth() {
        checks.says("No recursion, neither direct nor through other methods .. calls go at most six deep");
        for (String name : bodies.keySet()) {
            Set<String> level = Set.of(name);
            int deep = 0;
            // A recursion would never run out of callees.
            while (!level.isEmpty() && deep <= DEEPEST) {
                Set<String> next = new TreeSet<>();
                level.forEach(caller -> next.addAll(calledBy(bodies.get(caller))));
                level = next;
                deep++;
            }
            checks.due(name + " is at most six deep", deep <= DEEPEST, true);
        }
    }

    private void callsInArguments() {
        checks.says("no call stands inside the arguments of another call");
        bodies.forEach((name, body) -> {
            Matcher call = CALL.matcher(body);
            while (call.find()) {
                if (bodies.containsKey(call.group(1))) {
                    Set<String> inside = calledBy(arguments(body, call.end()));
                    checks.due("calls in the arguments of " + call.group() + ".. in " + name, inside.size(), 0);
                }
            }
        });
    }

    private static String arguments(String body, int from) {
        int open = 1;
        int at = from;
        while (open > 0) {
            open += body.charAt(at) == '(' ? 1 : body.charAt(at) == ')' ? -1 : 0;
            at++;
        }
        return body.substring(from, at);
    }

    private void lengths() {
        checks.says("Methods stay short (some sixty lines)");
        bodies.forEach((name, body) -> checks.due(name + " is short", body.lines().count() <= LONGEST, true));
    }
}
