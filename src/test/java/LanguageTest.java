import java.io.IOException;
import java.lang.reflect.Constructor;
import java.lang.reflect.Field;
import java.lang.reflect.Method;
import java.lang.reflect.Modifier;
import java.nio.file.Files;
import java.nio.file.Path;
import java.util.Set;
import java.util.TreeSet;
import java.util.regex.Matcher;
import java.util.regex.Pattern;

/** The public face of the document, and what of LANGUAGE.md's rules can be seen from outside. */
public final class LanguageTest {
    private static final Path SOURCE = Path.of("src/main/java/SealedAuditLog.java");
    private static final Set<String> FACE = Set.of(
        "boolean start(int)", "int append(int,int)", "void armCrash(int)", "boolean crash()", "int recover()",
        "int verify()", "int verifyReason()", "boolean tamper(int,int)", "boolean dropRecord(int)",
        "boolean swapRecords(int,int)", "int storedByte(int)", "int header(int)", "int writer(int)");
    private static final Set<String> CONSTANTS = Set.of(
        "MIN_RECORDS=4", "MAX_RECORDS=32", "MIN_EPOCH=2", "MAX_EPOCH=8", "KIND_CHECKPOINT=255",
        "ERR_CRASHED=-1", "ERR_NOT_STARTED=-2", "ERR_KIND=-3", "ERR_PAYLOAD=-4", "ERR_FULL=-5", "ERR_LOST=-6",
        "ERR_NOT_CRASHED=-7", "V_ACCEPT=-1", "V_CRASHED=-2", "V_NOT_STARTED=-3",
        "R_NONE=0", "R_KIND=1", "R_ORDER=2", "R_SEQ=3", "R_EPOCH=4", "R_TAG=5",
        "H_END=0", "H_KEY=1", "H_TAG=2", "H_EPOCH=3",
        "W_END=0", "W_TAG=1", "W_SLOT=2", "W_EPOCH=3", "W_BUDGET=4", "W_CRASHED=5", "W_STARTED=6", "W_CAPACITY=7",
        "W_EPOCH_LENGTH=8");
    private static final String BANNED_WORDS = "import|package|throw|throws|try|catch|finally|synchronized|assert"
        + "|instanceof|null|float|double|String|Math|Integer|Long|System|Arrays|Object|Thread|interface|enum"
        + "|protected|getClass|hashCode|equals|toString|super|var";

    public static void main(String[] args) throws IOException, IllegalAccessException {
        Checks checks = new Checks();
        classItself(checks);
        methods(checks);
        fields(checks);
        source(checks);
        checks.end();
    }

    private static void classItself(Checks checks) {
        checks.says("One class: the one of the document, public and final, with the public constructor");
        Class<?> face = SealedAuditLog.class;
        checks.due("the class is public and final", face.getModifiers(), Modifier.PUBLIC | Modifier.FINAL);
        checks.due("nested classes", face.getDeclaredClasses().length, 0);
        checks.due("interfaces", face.getInterfaces().length, 0);
        checks.due("extends nothing", face.getSuperclass() == Object.class, true);
        Constructor<?>[] constructors = face.getDeclaredConstructors();
        checks.due("constructors", constructors.length, 1);
        checks.due("constructor takes two ints", constructors[0].toString().endsWith("SealedAuditLog(int,int)"), true);
        checks.due("constructor is public", constructors[0].getModifiers(), Modifier.PUBLIC);
    }

    private static String signature(Method method) {
        StringBuilder types = new StringBuilder();
        for (Class<?> type : method.getParameterTypes()) {
            types.append(types.length() == 0 ? "" : ",").append(type);
        }
        return method.getReturnType() + " " + method.getName() + "(" + types + ")";
    }

    private static void methods(Checks checks) {
        checks.says("The public face (the methods)");
        Set<String> publicOnes = new TreeSet<>();
        Set<String> publicNames = new TreeSet<>();
        for (Method method : SealedAuditLog.class.getDeclaredMethods()) {
            if (Modifier.isPublic(method.getModifiers())) {
                publicOnes.add(signature(method));
                publicNames.add(method.getName());
                checks.due(method + " is public alone", method.getModifiers(), Modifier.PUBLIC);
            }
        }
        checks.due("the face is " + publicOnes, publicOnes.equals(FACE), true);
        for (Method method : SealedAuditLog.class.getDeclaredMethods()) {
            boolean open = Modifier.isPublic(method.getModifiers());
            checks.due(method + " is public or private", open || Modifier.isPrivate(method.getModifiers()), true);
            checks.due(method + " has a name of its own", open || !publicNames.contains(method.getName()), true);
            checks.due(method + " has at most 7 parameters", method.getParameterCount() <= 7, true);
            checks.due(method + " answers no array", method.getReturnType().isPrimitive(), true);
        }
    }

    private static void fields(Checks checks) throws IllegalAccessException {
        checks.says("The public face (the constants); private fields");
        Set<String> constants = new TreeSet<>();
        int others = 0;
        for (Field field : SealedAuditLog.class.getDeclaredFields()) {
            int modifiers = field.getModifiers();
            Class<?> type = field.getType();
            if (Modifier.isPublic(modifiers)) {
                constants.add(field.getName() + "=" + field.get(null));
            } else {
                checks.due(field + " is private", Modifier.isPrivate(modifiers), true);
            }
            if (Modifier.isStatic(modifiers)) {
                checks.due(field + " is a constant", Modifier.isFinal(modifiers), true);
                checks.due(field + " is an int or a long", type == int.class || type == long.class, true);
            } else {
                others++;
                checks.due(field + " is private", Modifier.isPrivate(modifiers), true);
                Class<?> part = type.isArray() ? type.getComponentType() : type;
                checks.due(field + " has an allowed type", part.isPrimitive(), true);
            }
        }
        checks.due("the constants are " + constants, constants.equals(CONSTANTS), true);
        checks.due("at most some forty fields", others <= 40, true);
    }

    private static void source(Checks checks) throws IOException {
        checks.says("No class of the Java library; arrays of a length that is a literal or a constant");
        String text = Files.readString(SOURCE).replaceAll("//[^\n]*", "").replaceAll("(?s)/\\*.*?\\*/", "");
        Matcher words = Pattern.compile("\\b(" + BANNED_WORDS + ")\\b|->|::|\"|'").matcher(text);
        while (words.find()) {
            checks.due("the source has " + words.group(), true, false);
        }
        Matcher made = Pattern.compile("\\bnew\\b[^;]*;").matcher(text);
        while (made.find()) {
            boolean fixed = made.group().matches("new (int|long|short|byte|char|boolean)\\[([A-Z_]+|[1-9][0-9]*)\\];");
            checks.due(made.group() + " is an array of a fixed length", fixed, true);
        }
    }
}
