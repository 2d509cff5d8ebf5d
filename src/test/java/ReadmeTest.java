import java.io.IOException;
import java.lang.reflect.Method;
import java.lang.reflect.Modifier;
import java.nio.file.Files;
import java.nio.file.Path;
import java.util.regex.Matcher;
import java.util.regex.Pattern;

/** README.md's example answers what README.md says, and README.md names each call. */
public final class ReadmeTest {
    private static final Pattern CALL =
            Pattern.compile("(?:int claim = )?field\\.(\\w+\\([^)]*\\)); *// (?:= (-?\\d+)|(throws IllegalStateException))?.*");
    private static final int LEAST_CALLS = 15;

    public static void main(String[] args) throws IOException {
        String text = Files.readString(Path.of("README.md"));
        String[] parts = text.split("```(?:java\n)?");
        Script.check("README.md", parts.length == 3, "has not one example in Java");
        if (parts.length == 3) {
            playExample(parts[1]);
            nameEachCall(parts[2]);
        }
        Script.end("ReadmeTest");
    }

    private static void playExample(String example) {
        Script script = new Script("README.md");
        int calls = 0;
        for (String line : example.split("\n")) {
            Matcher form = CALL.matcher(line);
            if (form.matches()) {
                script.play(asScript(form));
                calls++;
            } else {
                Script.check(line, line.equals("OpalField field = new OpalField();"), "is no call with what it answers");
            }
        }
        Script.check("README.md", calls >= LEAST_CALLS, "has only " + calls + " calls in its example");
    }

    /** The example's only claim is claim 0. */
    private static String asScript(Matcher form) {
        String call = form.group(1).replace("claim", "0");
        if (form.group(3) != null) {
            return call + " ! state";
        }
        return form.group(2) == null ? call : call + " = " + form.group(2);
    }

    private static void nameEachCall(String rest) {
        for (Method method : OpalField.class.getDeclaredMethods()) {
            boolean seen = Modifier.isPublic(method.getModifiers());
            boolean named = rest.contains("`" + method.getName() + "`") || rest.contains("`" + method.getName() + "(");
            Script.check(method.getName(), !seen || named, "is not named in README.md");
        }
    }
}
