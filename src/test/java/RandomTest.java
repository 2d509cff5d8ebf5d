import java.lang.reflect.InvocationTargetException;
import java.lang.reflect.Method;
import java.util.Arrays;
import java.util.HashMap;
import java.util.Map;

/**
 * Runs of 512 calls drawn by a fixed rule, each answer of OpalField held against PlainField's.
 * All promises; and no exception may be the machine's own (its class is compared, not its kind).
 */
public final class RandomTest {
    private static final int RUNS = 400, CALLS = 512;
    private static final String[] CHANGES = {
        "seam", "seam", "seam", "pass", "pass", "peg", "peg", "witness", "witness", "partner", "dig", "dig", "dig", "dig",
        "dig", "dig", "dig", "dig", "sink", "sink", "prop", "trap", "trap", "rat", "rat", "rat", "rat", "divide", "rub", "rub",
        "bid", "bid", "bid", "sell"};
    private static final String[] LOOKS = {
        "hour", "bore", "ofCell", "ofCell", "ofCell", "ofClaim", "ofClaim", "share", "verdict", "ofPerson", "ofStone",
        "ofStone", "purse", "carats", "carats", "plan", "planAnew"};
    private static final String[] FORMS = {
        "seam:cell,carats,depth", "pass:hours", "peg:person,cell,edge,edge", "witness:claim,person,hour",
        "partner:claim,person,twelfths", "dig:claim,person,cell", "sink:claim,person,cell", "prop:claim,person,cell",
        "trap:claim,person,cell", "rat:person,cell", "divide:claim", "rub:stone", "bid:buyer,stone,price", "sell:stone",
        "hour:", "bore:cell", "ofCell:cell,what", "ofClaim:claim,what", "share:claim,person", "verdict:claim,claim",
        "ofPerson:person,what", "ofStone:stone,what", "purse:buyer", "carats:what", "plan:claim,digs", "planAnew:claim,digs"};
    private static final int[] ODD = {-1, -2, 8, 12, 100, 1000, 100000, Integer.MAX_VALUE, Integer.MIN_VALUE};

    private final Map<String, Method> methods = new HashMap<>();
    private final Map<String, String[]> forms = new HashMap<>();
    private final Map<String, Integer> wentWell = new HashMap<>();
    private long drawn = 88172645463325252L;
    private int now;
    private int origin;

    public static void main(String[] args) throws IllegalAccessException {
        RandomTest test = new RandomTest();
        for (String form : FORMS) {
            String[] parts = form.split(":", 2);
            test.forms.put(parts[0], parts[1].isEmpty() ? new String[0] : parts[1].split(","));
        }
        for (Method method : OpalField.class.getMethods()) {
            test.methods.put(method.getName(), method);
        }
        for (int run = 0; run < RUNS; run++) {
            test.run(run);
        }
        for (String name : test.forms.keySet()) {
            int times = test.wentWell.getOrDefault(name, 0);
            Script.check(name, times > RUNS / 4, "went well only " + times + " times: the draw is poor");
        }
        Script.end("RandomTest");
    }

    private void run(int run) throws IllegalAccessException {
        OpalField field = new OpalField();
        PlainField plain = new PlainField();
        now = 0;
        int wide = 2 + draw(9);
        int room = Math.max(1, 11 - wide);
        origin = draw(room) * 10 + draw(room);
        StringBuilder told = new StringBuilder();
        for (int i = 0; i < CALLS; i++) {
            String[] from = draw(3) == 0 ? LOOKS : CHANGES;
            String name = from[draw(from.length)];
            int[] values = drawValues(name, wide);
            if (draw(4) > 0) {
                makeLikely(plain, name, values);
            }
            String got = answerOf(field, name, values);
            String due = dueOf(plain, name, values);
            told.append(name).append(Arrays.toString(values)).append(' ').append(due).append("; ");
            boolean same = got.equals(due);
            Script.check("run " + run, same, "answered " + got + " at last: " + (same ? "" : told));
            if (!same) {
                return;
            }
            now = (int) plain.call("hour", new int[0]);
        }
    }

    private int draw(int limit) {
        drawn ^= drawn << 13;
        drawn ^= drawn >>> 7;
        drawn ^= drawn << 17;
        return (int) Math.floorMod(drawn, (long) limit);
    }

    private int[] drawValues(String name, int wide) {
        String[] form = forms.get(name);
        int[] values = new int[form.length];
        for (int i = 0; i < values.length; i++) {
            values[i] = draw(60) == 0 ? ODD[draw(ODD.length)] : drawOne(form[i], wide);
        }
        return values;
    }

    /** Puts in the CLAIM that HOLDS the CELL, one of its PEOPLE, and a CELL that can be dug: by chance they are rare. */
    private void makeLikely(PlainField plain, String name, int[] values) {
        boolean byHand = name.equals("dig") || name.equals("sink") || name.equals("prop") || name.equals("trap");
        int at = byHand ? 2 : 1;
        for (int tries = 0; (byHand || name.equals("rat")) && tries < 6; tries++) {
            int kind = tells(plain, "ofCell", values[at], 0);
            int holder = tells(plain, "ofCell", values[at], 3);
            boolean good = holder >= 0 && (kind == 1) == name.equals("prop");
            if (good && byHand) {
                values[0] = holder;
                values[1] = draw(3) == 0 ? values[1] : tells(plain, "ofClaim", holder, 0);
                return;
            }
            if (good) {
                return;
            }
            values[at] = drawOne("cell", 3);
        }
    }

    private static int tells(PlainField plain, String name, int... values) {
        String told = dueOf(plain, name, values);
        return told.startsWith("java") ? -1 : Integer.parseInt(told);
    }

    /** In a small corner of the ground, among few, so that the calls come to touch one another. */
    private int drawOne(String kind, int wide) {
        switch (kind) {
            case "cell": return origin + draw(wide) * 10 + draw(wide);
            case "carats": return 1 + draw(draw(2) == 0 ? 20 : 999);
            case "depth": return draw(4);
            case "hours": return draw(12) == 0 ? 1 + draw(99) : 1 + draw(5);
            case "person": return draw(3) == 0 ? draw(8) : draw(3);
            case "edge": return draw(3) == 0 ? draw(6) : 2 + draw(3);
            case "claim": return draw(2) == 0 ? draw(12) : draw(4);
            case "hour": return Math.max(0, now - draw(30));
            case "twelfths": return draw(13);
            case "stone": return draw(draw(2) == 0 ? 4 : 12);
            case "buyer": return draw(5);
            case "price": return draw(3) == 0 ? draw(30000) : 1 + draw(3) * 900;
            case "digs": return draw(5);
            default: return draw(9);
        }
    }

    private String answerOf(OpalField field, String name, int[] values) throws IllegalAccessException {
        Object[] boxed = new Object[values.length];
        for (int i = 0; i < values.length; i++) {
            boxed[i] = values[i];
        }
        try {
            Object answer = methods.get(name).invoke(field, boxed);
            wentWell.merge(name, 1, Integer::sum);
            return answer == null ? "0" : answer.toString();
        } catch (InvocationTargetException thrown) {
            return Script.nameOf(thrown.getCause());
        }
    }

    private static String dueOf(PlainField plain, String name, int[] values) {
        try {
            return Long.toString(plain.call(name, values));
        } catch (IndexOutOfBoundsException | IllegalArgumentException | IllegalStateException thrown) {
            return thrown.getClass().getName();
        }
    }
}
