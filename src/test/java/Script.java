import java.lang.reflect.InvocationTargetException;
import java.lang.reflect.Method;
import java.util.HashMap;
import java.util.Map;
import java.util.regex.Matcher;
import java.util.regex.Pattern;

/**
 * A run of calls on a new object, written one call a line (or behind a ';'):
 * "dig(0, 1, 12)" must not throw, "dig(0, 1, 12) = 9" must answer 9, "dig(0, 1, 12) ! state" must
 * throw an IllegalStateException (bounds, argument: likewise), "50 times pass(99)" is that 50 times.
 */
final class Script {
    /** The document promises nothing of an object behind so many calls. */
    private static final int MOST_CALLS = 512;
    private static final Pattern FORM =
            Pattern.compile("(?:(\\d+) times )?(\\w+)\\(([^)]*)\\)(?: = (-?\\d+)| ! (bounds|argument|state))?");
    private static final Map<String, Method> METHODS = new HashMap<>();
    private static int right = 0;
    private static int wrong = 0;

    private final String title;
    private final OpalField field = new OpalField();
    private int calls = 0;

    Script(String title) {
        this.title = title;
    }

    static void run(String title, String lines) {
        new Script(title).play(lines);
    }

    Script play(String lines) {
        for (String line : lines.split("[;\n]")) {
            if (!line.isBlank()) {
                playOne(line.strip());
            }
        }
        return this;
    }

    private void playOne(String line) {
        Matcher form = FORM.matcher(line);
        if (!form.matches()) {
            check(line, "is no call", "a call");
            return;
        }
        int times = form.group(1) == null ? 1 : Integer.parseInt(form.group(1));
        for (int i = 0; i < times; i++) {
            String got = answerOf(form.group(2), form.group(3));
            if (form.group(4) != null) {
                check(line, got, form.group(4));
            } else if (form.group(5) != null) {
                check(line, got, nameOf(form.group(5)));
            } else {
                check(line, got.startsWith("java") ? got : "no throw", "no throw");
            }
        }
    }

    /** What one call answers, as a text: a number, "null" of a void one, or an exception's name. */
    String answer(String call) {
        Matcher form = FORM.matcher(call);
        return form.matches() ? answerOf(form.group(2), form.group(3)) : "no call";
    }

    private String answerOf(String name, String arguments) {
        calls++;
        if (calls > MOST_CALLS) {
            return "nothing: too many calls";
        }
        try {
            Object[] values = arguments.isBlank() ? new Object[0] : new Object[arguments.split(",").length];
            for (int i = 0; i < values.length; i++) {
                values[i] = Integer.valueOf(arguments.split(",")[i].strip());
            }
            return String.valueOf(methodOf(name).invoke(field, values));
        } catch (InvocationTargetException thrown) {
            return nameOf(thrown.getCause());
        } catch (IllegalAccessException none) {
            return "no such method";
        }
    }

    private static Method methodOf(String name) {
        if (METHODS.isEmpty()) {
            for (Method method : OpalField.class.getMethods()) {
                METHODS.put(method.getName(), method);
            }
        }
        if (!METHODS.containsKey(name)) {
            throw new IllegalArgumentException("no such method: " + name);
        }
        return METHODS.get(name);
    }

    /** A list or the machine may throw what the document names, too: so it must have been thrown in OpalField. */
    static String nameOf(Throwable thrown) {
        StackTraceElement[] trace = thrown.getStackTrace();
        String name = thrown.getClass().getName();
        boolean own = trace.length > 0 && trace[0].getClassName().startsWith("OpalField");
        return own ? name : name + ", not by a throw of OpalField";
    }

    static String nameOf(String kind) {
        switch (kind) {
            case "bounds":
                return IndexOutOfBoundsException.class.getName();
            case "argument":
                return IllegalArgumentException.class.getName();
            default:
                return IllegalStateException.class.getName();
        }
    }

    private void check(String what, String got, String due) {
        check(title + ": " + what, got.equals(due), "answered " + got + ", due is " + due);
    }

    static void check(String what, boolean so, String otherwise) {
        if (so) {
            right++;
        } else {
            wrong++;
            System.out.println(what + " " + otherwise);
        }
    }

    /** Every test's last line. */
    static void end(String test) {
        System.out.println(test + ": " + right + " answers as due, " + wrong + " not");
        if (wrong > 0) {
            System.exit(1);
        }
    }
}
