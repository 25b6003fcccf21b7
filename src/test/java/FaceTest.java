import java.io.IOException;
import java.lang.reflect.Constructor;
import java.lang.reflect.Field;
import java.lang.reflect.Method;
import java.lang.reflect.Modifier;
import java.nio.file.Files;
import java.nio.file.Path;
import java.util.Map;
import java.util.Set;
import java.util.TreeMap;
import java.util.TreeSet;
import java.util.regex.Matcher;
import java.util.regex.Pattern;

/** The public face of the document, and those rules of ../shared/LANGUAGE.md that can be read off the source. */
final class FaceTest extends Checks {
    private static final Path SOURCE = Path.of("src/main/java/DryIceLane.java");
    private static final Pattern FORBIDDEN = Pattern.compile(
        "\\b(import|package|throw|throws|try|catch|synchronized|assert|volatile|native|float|double)\\b|->|::|Exact\\b|@Override");

    public static void main(String[] args) throws ReflectiveOperationException, IOException {
        classIsPublicAndFinal();
        constants();
        methods();
        nothingElseIsVisible();
        source();
        end();
    }

    private static void classIsPublicAndFinal() {
        int modifiers = DryIceLane.class.getModifiers();
        due("class is public", Modifier.isPublic(modifiers) ? 1 : 0, 1);
        due("class is final", Modifier.isFinal(modifiers) ? 1 : 0, 1);
        Constructor<?>[] constructors = DryIceLane.class.getDeclaredConstructors();
        due("constructors", constructors.length, 1);
        due("constructor is public", Modifier.isPublic(constructors[0].getModifiers()) ? 1 : 0, 1);
        due("arguments of the constructor", constructors[0].getParameterCount(), 0);
    }

    private static void constants() throws ReflectiveOperationException {
        Map<String, Integer> want = new TreeMap<>();
        String[] errors = {"NO_SUCH", "BAD_VALUE", "BAD_TEXT", "TOO_MANY", "NOT_POSSIBLE", "NONE"};
        for (int i = 0; i < errors.length; i++) {
            want.put(errors[i], -1 - i);
        }
        want.put("GONE", 1000000000);
        String[] settings = {"RATE", "VOLUME", "VENT", "LEAK", "DOOR", "OPENS", "SHUTS", "HOLD", "SAFE", "SLOW", "COOL"};
        for (int i = 0; i < settings.length; i++) {
            want.put(settings[i], i);
        }
        want.put("AUTO", 0);
        want.put("SHUT", 1);
        want.put("OPEN", 2);
        Map<String, Integer> got = new TreeMap<>();
        for (Field field : DryIceLane.class.getFields()) {
            due(field.getName() + " is an int", field.getType() == int.class ? 1 : 0, 1);
            due(field.getName() + " is a constant", field.getModifiers(), Modifier.PUBLIC | Modifier.STATIC | Modifier.FINAL);
            got.put(field.getName(), field.getInt(null));
        }
        alike("constants", got.toString(), want.toString());
    }

    private static void methods() {
        Set<String> want = new TreeSet<>(Set.of(
            "int load 3", "int unload 1", "int shift 2", "int set 2", "int leg 2", "int cut 0", "int depart 0", "int pass 1",
            "int vent 1", "int open 0", "int shut 0", "int sell 1", "int spill 2", "int weigh 1", "int check 1", "int box 2",
            "int van 1", "int way 2", "long account 1", "int atEnd 2", "int worst 1", "int purge 1", "int front 2", "int say 1",
            "int wipe 0", "int fault 0", "int read 0", "int save 1", "int restore 1"));
        Set<String> got = new TreeSet<>();
        for (Method method : DryIceLane.class.getDeclaredMethods()) {
            if (!Modifier.isPrivate(method.getModifiers())) {
                due(method.getName() + " is public", method.getModifiers(), Modifier.PUBLIC);
                got.add(method.getReturnType() + " " + method.getName() + " " + method.getParameterCount());
                for (Class<?> type : method.getParameterTypes()) {
                    due("an argument of " + method.getName() + " is an int", type == int.class ? 1 : 0, 1);
                }
            }
        }
        alike("methods", got.toString(), want.toString());
    }

    private static void nothingElseIsVisible() {
        for (Field field : DryIceLane.class.getDeclaredFields()) {
            int modifiers = field.getModifiers();
            due(field.getName() + " is public or private",
                Modifier.isPublic(modifiers) || Modifier.isPrivate(modifiers) ? 1 : 0, 1);
            due(field.getName() + " is final", Modifier.isFinal(modifiers) ? 1 : 0, 1);
        }
        Set<String> face = new TreeSet<>();
        for (Method method : DryIceLane.class.getMethods()) {
            face.add(method.getName());
        }
        for (Class<?> inner : DryIceLane.class.getDeclaredClasses()) {
            due(inner + " is static", Modifier.isStatic(inner.getModifiers()) ? 1 : 0, 1);
            for (Method method : inner.getDeclaredMethods()) {
                due(inner + " has a method named " + method.getName(), face.contains(method.getName()) ? 1 : 0, 0);
            }
        }
    }

    private static void source() throws IOException {
        String code = Files.readString(SOURCE).replaceAll("(?s)/\\*.*?\\*/", "").replaceAll("//.*", "");
        Matcher matcher = FORBIDDEN.matcher(code);
        due("forbidden words in the source", matcher.find() ? 1 : 0, 0);
        due("signs beyond ASCII in the source", code.chars().filter(c -> c > 126).count(), 0);
    }

    private static void alike(String what, String got, String want) {
        due(what + " " + got + " are " + want, got.equals(want) ? 1 : 0, 1);
    }
}
