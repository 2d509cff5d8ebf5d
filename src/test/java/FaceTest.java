import java.lang.reflect.Constructor;
import java.lang.reflect.Field;
import java.lang.reflect.Member;
import java.lang.reflect.Method;
import java.lang.reflect.Modifier;
import java.util.Arrays;
import java.util.Set;
import java.util.TreeSet;

/** The class's face: exactly the document's constants, constructor and methods (LANGUAGE.md, rule 1). */
public final class FaceTest {
    private static final String B = "IndexOutOfBoundsException", A = "IllegalArgumentException",
            S = "IllegalStateException";
    private static final String[] METHODS = {
        "void seam/3 " + B + " " + A + " " + S, "int pass/1 " + A + " " + S,
        "int peg/4 " + B + " " + A + " " + S, "int witness/3 " + B + " " + A + " " + S,
        "int partner/3 " + B + " " + A + " " + S, "int dig/3 " + B + " " + S, "int sink/3 " + B + " " + S,
        "void prop/3 " + B + " " + S, "int trap/3 " + B + " " + S, "int rat/2 " + B + " " + S,
        "int divide/1 " + B + " " + S, "int rub/1 " + B + " " + S, "int bid/3 " + B + " " + A + " " + S,
        "int sell/1 " + B + " " + S, "int hour/0", "int bore/1 " + B, "int ofCell/2 " + B + " " + A,
        "int ofClaim/2 " + B + " " + A, "int share/2 " + B, "int verdict/2 " + B + " " + A,
        "int ofPerson/2 " + B + " " + A, "int ofStone/2 " + B + " " + A, "int purse/1 " + B,
        "int carats/1 " + A, "int plan/2 " + B + " " + A, "int planAnew/2 " + B + " " + A};
    private static final String[] CONSTANTS = {
        "NONE=-1", "SOLID=0", "OPEN=1", "RUBBLE=2", "RAW=0", "SHINES=1", "DEAD=2"};

    public static void main(String[] args) throws IllegalAccessException {
        int kind = OpalField.class.getModifiers();
        Script.check("OpalField", Modifier.isPublic(kind) && Modifier.isFinal(kind), "is not public and final");
        same("methods", methods(), METHODS);
        same("constants", constants(), CONSTANTS);
        Constructor<?>[] constructors = OpalField.class.getDeclaredConstructors();
        Script.check("constructors", constructors.length == 1 && constructors[0].getParameterCount() == 0
                && Modifier.isPublic(constructors[0].getModifiers()), "are not one, public, of nothing");
        privateNames();
        Script.end("FaceTest");
    }

    private static void same(String what, Set<String> got, String[] due) {
        Set<String> want = new TreeSet<>(Arrays.asList(due));
        Script.check(what, got.equals(want), "are " + got + ", due are " + want);
    }

    private static Set<String> methods() {
        Set<String> found = new TreeSet<>();
        for (Method method : OpalField.class.getDeclaredMethods()) {
            if (isSeen(method)) {
                StringBuilder told = new StringBuilder();
                told.append(method.getReturnType()).append(' ').append(method.getName());
                told.append('/').append(method.getParameterCount());
                for (Class<?> thrown : method.getExceptionTypes()) {
                    told.append(' ').append(thrown.getSimpleName());
                }
                found.add(told.toString());
            }
        }
        return found;
    }

    private static Set<String> constants() throws IllegalAccessException {
        Set<String> found = new TreeSet<>();
        for (Field field : OpalField.class.getDeclaredFields()) {
            if (isSeen(field)) {
                int kind = field.getModifiers();
                boolean constant = Modifier.isPublic(kind) && Modifier.isStatic(kind) && Modifier.isFinal(kind);
                found.add(constant ? field.getName() + "=" + field.getInt(null) : "no constant " + field);
            }
        }
        return found;
    }

    private static void privateNames() {
        Set<String> seen = new TreeSet<>();
        for (Method method : OpalField.class.getDeclaredMethods()) {
            if (isSeen(method)) {
                seen.add(method.getName());
            }
        }
        for (Method method : OpalField.class.getDeclaredMethods()) {
            Script.check(method.getName(), isSeen(method) || !seen.contains(method.getName()),
                    "is the name of a private method too");
        }
    }

    private static boolean isSeen(Member member) {
        return !Modifier.isPrivate(member.getModifiers()) && !member.isSynthetic();
    }
}
