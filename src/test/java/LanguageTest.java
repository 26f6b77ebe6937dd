import java.io.IOException;
import java.lang.reflect.Constructor;
import java.lang.reflect.Field;
import java.lang.reflect.Member;
import java.lang.reflect.Method;
import java.lang.reflect.Modifier;
import java.nio.file.Files;
import java.nio.file.Path;
import java.util.ArrayList;
import java.util.List;
import java.util.Set;
import java.util.TreeSet;
import java.util.regex.Matcher;
import java.util.regex.Pattern;

/** What of ../shared/LANGUAGE.md can be seen from outside: the face, and words that the rules leave out. */
public final class LanguageTest {
    private static final Check CHECK = new Check();
    private static final Set<String> METHODS = Set.of("setAmbient/1", "setPower/1", "setController/4", "setProbe/2",
        "setCrack/2", "setFan/1", "setPoint/2", "removePoint/1", "setRow/2", "append/1", "clearText/0", "load/0",
        "charge/1", "drop/0", "takeAway/0", "run/1", "undo/0", "count/1", "batch/1", "target/1", "rate/1",
        "logged/2", "drift/1", "ticksTo/1", "ticksToLoss/1", "bestBias/1");
    private static final Set<String> CONSTANTS = Set.of("INVALID_ARGUMENT", "ILLEGAL_STATE", "CAPACITY_EXCEEDED",
        "NONE");
    private static final String[] FORBIDDEN = {"\\bthrow", "\\btry\\b", "\\bcatch\\b", "\\bsynchronized\\b",
        "\\bassert\\b", "\\bimport\\b", "\\bpackage\\b", "->", "::", "\\bstatic\\s*\\{", "\\bhashCode\\b",
        "\\btoString\\b", "Exact\\b", "\\bjava\\.", "\\bwhile\\b", "[^\\x00-\\x7f]"};
    /** Java rounds these toward 0, the document rounds all divisions toward negative infinity. */
    private static final String[] DIVISIONS = {"/", "%"};

    public static void main(String[] args) throws IOException {
        face();
        constants();
        privateMembers();
        nestedClasses();
        sizes();
        words(Files.readString(Path.of("src/main/java/RoastKeeper.java")));
        CHECK.finish();
    }

    private static void right(String what, boolean right) {
        CHECK.due(what, right ? 1 : 0, 1);
    }

    private static void face() {
        Class<?> face = RoastKeeper.class;
        right("RoastKeeper is public and final", face.getModifiers() == (Modifier.PUBLIC | Modifier.FINAL));
        right("it extends nothing", face.getSuperclass() == Object.class && face.getInterfaces().length == 0);
        right("one constructor", face.getDeclaredConstructors().length == 1);
        for (Constructor<?> constructor : face.getDeclaredConstructors()) {
            right("public, without parameters", Modifier.isPublic(constructor.getModifiers())
                && constructor.getParameterCount() == 0);
        }
        Set<String> methods = new TreeSet<>();
        for (Method method : shown(face.getDeclaredMethods())) {
            methods.add(method.getName() + "/" + method.getParameterCount());
            right(method.getName() + " answers an int", method.getReturnType() == int.class);
            right(method.getName() + " is public and of an object", method.getModifiers() == Modifier.PUBLIC);
            for (Class<?> type : method.getParameterTypes()) {
                right(method.getName() + " takes ints", type == int.class);
            }
        }
        right("no method stands there twice", shown(face.getDeclaredMethods()).size() == METHODS.size());
        right("the methods are the document's: " + methods, methods.equals(METHODS));
        Set<String> fields = new TreeSet<>();
        for (Field field : shown(face.getDeclaredFields())) {
            fields.add(field.getName());
        }
        right("the constants are the document's: " + fields, fields.equals(CONSTANTS));
    }

    private static void constants() {
        for (Field field : shown(RoastKeeper.class.getDeclaredFields())) {
            right(field.getName() + " is a constant", field.getModifiers()
                == (Modifier.PUBLIC | Modifier.STATIC | Modifier.FINAL));
            right(field.getName() + " is an int", field.getType() == int.class);
        }
    }

    /** Names of the face, without the numbers of their parameters. */
    private static Set<String> names() {
        Set<String> names = new TreeSet<>();
        METHODS.forEach(method -> names.add(method.substring(0, method.indexOf('/'))));
        return names;
    }

    private static void privateMembers() {
        for (Method method : RoastKeeper.class.getDeclaredMethods()) {
            if (Modifier.isPrivate(method.getModifiers())) {
                right(method + " bears no name of the face", !names().contains(method.getName()));
            }
        }
        for (Field field : RoastKeeper.class.getDeclaredFields()) {
            right(field + " is final if static", !Modifier.isStatic(field.getModifiers())
                || Modifier.isFinal(field.getModifiers()));
        }
    }

    private static List<Class<?>> all() {
        List<Class<?>> all = new ArrayList<>(List.of(RoastKeeper.class.getDeclaredClasses()));
        all.add(RoastKeeper.class);
        return all;
    }

    /** Rules 3 and 11: types, parameters and fields. */
    private static void sizes() {
        for (Class<?> each : all()) {
            int fields = 0;
            for (Field field : each.getDeclaredFields()) {
                Class<?> type = field.getType();
                boolean own = all().contains(type.isArray() ? type.getComponentType() : type);
                right(field + " is of a type that the rules name", own || type == int.class || type == int[].class);
                fields += Modifier.isStatic(field.getModifiers()) ? 0 : 1;
            }
            right(each + " has at most twenty fields", fields <= 20);
            for (Method method : each.getDeclaredMethods()) {
                right(method + " takes at most seven parameters", method.getParameterCount() <= 7);
            }
        }
    }

    /** Those that are not private. */
    private static <M extends Member> List<M> shown(M[] members) {
        List<M> shown = new ArrayList<>();
        for (M member : members) {
            if (!Modifier.isPrivate(member.getModifiers()) && !member.isSynthetic()) {
                shown.add(member);
            }
        }
        return shown;
    }

    private static void nestedClasses() {
        Set<String> names = names();
        right("at most twelve classes", RoastKeeper.class.getDeclaredClasses().length < 12);
        for (Class<?> nested : RoastKeeper.class.getDeclaredClasses()) {
            int modifiers = nested.getModifiers();
            right(nested + " is static and not shown", Modifier.isStatic(modifiers)
                && !Modifier.isPublic(modifiers) && !Modifier.isProtected(modifiers));
            for (Method method : nested.getDeclaredMethods()) {
                right(method + " bears no name of the face", !names.contains(method.getName()));
            }
            for (Field field : nested.getDeclaredFields()) {
                right(field + " is final if static", !Modifier.isStatic(field.getModifiers())
                    || Modifier.isFinal(field.getModifiers()));
            }
        }
    }

    private static void words(String source) {
        String code = source.replaceAll("(?s)/\\*.*?\\*/", " ").replaceAll("//[^\n]*", " ");
        for (String word : FORBIDDEN) {
            Matcher found = Pattern.compile(word).matcher(code);
            right("without " + word, !found.find());
        }
        for (String division : DIVISIONS) {
            right("without " + division, !code.contains(division));
        }
    }
}
