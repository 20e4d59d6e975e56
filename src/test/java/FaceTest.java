import java.lang.reflect.Constructor;
import java.lang.reflect.Field;
import java.lang.reflect.Method;
import java.lang.reflect.Modifier;
import java.nio.file.Files;
import java.nio.file.Path;
import java.util.Arrays;
import java.util.Set;
import java.util.TreeSet;
import java.util.regex.Matcher;
import java.util.regex.Pattern;

/** The face of the class is the document's and no more, and the source keeps to LANGUAGE.md. */
public final class FaceTest {
    private static final Due T = new Due("FaceTest");

    private static final String METHODS = "addClass:1 currentVersion:1 fields:2 stage:1 "
            + "stagedFields:1 addField:3 dropField:2 renameField:3 scaleField:3 mergeField:3 "
            + "activate:1 discard:1 rollback:1 call:2 finish:1 depth:1 frameClass:2 "
            + "frameVersion:2 oldFrames:1 create:1 read:3 write:4 peek:2 objectVersion:1 "
            + "conversions:1 pinnedBy:1 outdated:1 convertAll:1";

    private static final String CONSTANTS = "NO_SUCH_CLASS=-2000001 NO_SUCH_VERSION=-2000002 "
            + "NO_SUCH_THREAD=-2000003 NO_SUCH_OBJECT=-2000004 NO_SUCH_FIELD=-2000005 "
            + "NO_FRAME=-2000006 BAD_VALUE=-2000007 NOT_STAGED=-2000008 ALREADY=-2000009 "
            + "TOO_MANY=-2000010 WRONG_CLASS=-2000011 STALE=-2000012 BLOCKED=-2000013 "
            + "CONVERSION_FAILED=-2000014 BUSY=-2000015 NONE=-2000016";

    private static final Pattern BANNED = Pattern.compile("\\b(throw|throws|try|catch|finally|"
            + "synchronized|assert|import|protected|instanceof|Object|System\\.out|"
            + "System\\.nanoTime|Random|[A-Za-z]+Exact)\\b|->|::");

    public static void main(String[] args) throws Exception {
        check("methods", new TreeSet<>(Arrays.asList(METHODS.split(" "))), methods());
        check("constants", new TreeSet<>(Arrays.asList(CONSTANTS.split(" "))), constants());
        constructors();
        source();
        T.end();
    }

    private static void check(String what, Set<String> want, Set<String> got) {
        T.due(got.equals(want) ? 1 : 0, 1);
        if (!got.equals(want)) {
            T.fail(what + " are " + got);
        }
    }

    private static Set<String> methods() {
        Set<String> open = new TreeSet<>();
        Set<String> closed = new TreeSet<>();
        for (Method method : LiveUpgrader.class.getDeclaredMethods()) {
            if (Modifier.isPrivate(method.getModifiers())) {
                closed.add(method.getName());
                continue;
            }
            open.add(method.getName() + ":" + method.getParameterCount());
            T.due(method.getModifiers(), Modifier.PUBLIC);
            T.due(method.getReturnType() == int.class ? 1 : 0, 1);
            for (Class<?> parameter : method.getParameterTypes()) {
                T.due(parameter == int.class ? 1 : 0, 1);
            }
        }
        for (String name : closed) {
            T.due((" " + METHODS).contains(" " + name + ":") ? 1 : 0, 0);
        }
        return open;
    }

    private static Set<String> constants() throws IllegalAccessException {
        Set<String> open = new TreeSet<>();
        for (Field field : LiveUpgrader.class.getDeclaredFields()) {
            int modifiers = field.getModifiers();
            if (Modifier.isStatic(modifiers)) {
                T.due(Modifier.isFinal(modifiers) ? 1 : 0, 1);
            }
            if (!Modifier.isPrivate(modifiers)) {
                T.due(modifiers, Modifier.PUBLIC | Modifier.STATIC | Modifier.FINAL);
                T.due(field.getType() == int.class ? 1 : 0, 1);
                open.add(field.getName() + "=" + field.getInt(null));
            }
        }
        return open;
    }

    private static void constructors() {
        Constructor<?>[] all = LiveUpgrader.class.getDeclaredConstructors();
        T.due(all.length, 1);
        T.due(all[0].getModifiers(), Modifier.PUBLIC);
        T.due(all[0].getParameterCount(), 0);
        T.due(LiveUpgrader.class.getModifiers(), Modifier.PUBLIC | Modifier.FINAL);
        for (Class<?> inside : LiveUpgrader.class.getDeclaredClasses()) {
            T.due(Modifier.isStatic(inside.getModifiers()) ? 1 : 0, 1);
            T.due(Modifier.isPublic(inside.getModifiers()) ? 1 : 0, 0);
        }
    }

    private static void source() throws java.io.IOException {
        String text = Files.readString(Path.of("src/main/java/LiveUpgrader.java"));
        String code = text.replaceAll("(?s)/\\*.*?\\*/", "").replaceAll("//[^\n]*", "");
        Matcher matcher = BANNED.matcher(code);
        boolean found = matcher.find();
        T.due(found ? 1 : 0, 0);
        if (found) {
            T.fail("the source holds " + matcher.group());
        }
    }
}
