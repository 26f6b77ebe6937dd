import java.io.IOException;
import java.lang.reflect.Method;
import java.lang.reflect.Modifier;
import java.nio.file.Files;
import java.nio.file.Path;
import java.util.regex.Matcher;
import java.util.regex.Pattern;

/** The example of README.md answers what README.md says, and no call and no constant of the face is missing there. */
public final class ReadmeTest {
    private static final Check CHECK = new Check();
    private static final Pattern CALL = Pattern.compile("keeper\\.(\\w+)\\((.*?)\\);\\s*// (-?\\d+)(:.*)?");

    public static void main(String[] args) throws IOException {
        String readme = Files.readString(Path.of("README.md"));
        example(readme);
        face(readme);
        CHECK.finish();
    }

    private static void example(String readme) {
        int start = readme.indexOf("```java\n") + "```java\n".length();
        String[] lines = readme.substring(start, readme.indexOf("```", start)).split("\n");
        CHECK.due("the first line makes a roaster",
            lines[0].equals("RoastKeeper keeper = new RoastKeeper();") ? 1 : 0, 1);
        RoastKeeper keeper = new RoastKeeper();
        for (int n = 1; n < lines.length; n++) {
            Matcher call = CALL.matcher(lines[n]);
            if (!call.matches()) {
                CHECK.due("not a call with its answer: " + lines[n], 0, 1);
                continue;
            }
            String text = (call.group(1) + " " + call.group(2).replace(",", "")).trim();
            CHECK.due(text, Script.play(keeper, text), Integer.parseInt(call.group(3)));
        }
    }

    private static void face(String readme) {
        for (Method method : RoastKeeper.class.getDeclaredMethods()) {
            if (Modifier.isPublic(method.getModifiers())) {
                CHECK.due("is " + method.getName() + " told", readme.contains("\n| `" + method.getName() + "(") ? 1 : 0, 1);
            }
        }
        String[] constants = {"INVALID_ARGUMENT", "ILLEGAL_STATE", "CAPACITY_EXCEEDED", "NONE"};
        int[] values = {RoastKeeper.INVALID_ARGUMENT, RoastKeeper.ILLEGAL_STATE, RoastKeeper.CAPACITY_EXCEEDED,
            RoastKeeper.NONE};
        for (int n = 0; n < constants.length; n++) {
            boolean told = readme.contains("`" + constants[n] + "` (" + values[n] + ")");
            CHECK.due("is " + constants[n] + " told", told ? 1 : 0, 1);
        }
    }
}
