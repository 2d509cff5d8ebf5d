/**
 * What each call takes: for each argument the least and the greatest that are in range, those next
 * to them that are not, the greatest and the least int, and such as wrap around to one in range.
 * And the sentence "If several exceptions apply, the one that is named first in the throws clause is
 * thrown": each pair of arguments that are out of range, and each of them where the state refuses too.
 */
public final class RangesTest {
    /** A STONE 0 of PERSON 1, and a STONE 1 in the PARCEL of CLAIM 0. */
    private static final String STONES = """
        seam(0, 100, 2); seam(1, 9, 0); peg(1, 0, 1, 4); sink(0, 1, 0) = 100; divide(0) = 1; dig(0, 1, 1) = 9
        """;
    private static final String THREE_CLAIMS = "peg(0, 0, 1, 4); peg(0, 20, 1, 4); peg(0, 40, 1, 4); pass(9);";

    private static String name;
    private static String state;
    private static String[] kinds;
    private static int[] good;
    private static int[] least;
    private static int[] most;

    public static void main(String[] args) {
        ground();
        claims();
        digging();
        stones();
        looks();
        Script.end("RangesTest");
    }

    private static void ground() {
        both("seam", "", "seam(0, 5, 5);", "0 in 0..99 bounds", "5 in 1..999 argument", "5 in 0..9 argument");
        both("pass", "", "50 times pass(99); pass(50) = 5000;", "5 in 1..99 argument");
        one("pass", "50 times pass(99); pass(49) = 4999;", "5 in 1..99 argument");
    }

    private static void claims() {
        both("peg", "", "12 times peg(0, 0, 1, 1);",
                "0 in 0..7 bounds", "0 in 0..99 bounds", "1 in 1..4 argument", "1 in 1..4 argument");
        both("witness", THREE_CLAIMS, THREE_CLAIMS + "witness(0, 1, 5);",
                "0 in 0..2 bounds", "1 in 0..7 bounds", "5 in 0..9 argument");
        one("witness", "12 times peg(1, 0, 1, 1);", "0 in 0..11 bounds", "2 in 0..7 bounds", "0 in 0..0 argument");
        both("partner", THREE_CLAIMS, THREE_CLAIMS + "partner(0, 1, 5);",
                "0 in 0..2 bounds", "1 in 0..7 bounds", "5 in 1..11 argument");
    }

    private static void digging() {
        String[] takes = {"0 in 0..2 bounds", "0 in 0..7 bounds", "1 in 0..99 bounds"};
        both("dig", THREE_CLAIMS + "sink(0, 0, 0);", THREE_CLAIMS, takes);
        both("sink", THREE_CLAIMS, THREE_CLAIMS + "sink(0, 0, 1);", takes);
        both("prop", THREE_CLAIMS + "sink(0, 0, 1);", THREE_CLAIMS, takes);
        both("trap", THREE_CLAIMS, THREE_CLAIMS + "trap(0, 0, 1);", takes);
        both("rat", "peg(0, 0, 1, 4); sink(0, 0, 0);", "peg(0, 0, 1, 4); sink(0, 0, 0); pass(9);",
                "1 in 0..7 bounds", "1 in 0..99 bounds");
    }

    private static void stones() {
        both("divide", STONES, "peg(0, 0, 1, 1);", "0 in 0..0 bounds");
        one("divide", THREE_CLAIMS, "1 in 0..2 bounds");
        both("rub", STONES, STONES + "bid(0, 0, 5); sell(0) = 0;", "0 in 0..1 bounds");
        both("bid", STONES, STONES + "bid(0, 0, 5);",
                "0 in 0..4 bounds", "0 in 0..1 bounds", "5 in 1..99999 argument");
        one("bid", STONES + "bid(1, 0, 5); sell(0) = 1;",
                "0 in 0..4 bounds", "0 in 0..1 bounds", "5 in 1..99999 argument");
        both("sell", STONES + "bid(0, 0, 5);", STONES, "0 in 0..1 bounds");
    }

    private static void looks() {
        one("bore", "", "0 in 0..99 bounds");
        one("ofCell", "", "0 in 0..99 bounds", "0 in 0..3 argument");
        one("ofClaim", THREE_CLAIMS, "0 in 0..2 bounds", "0 in 0..6 argument");
        one("share", THREE_CLAIMS, "0 in 0..2 bounds", "0 in 0..7 bounds");
        one("verdict", THREE_CLAIMS, "0 in 0..2 bounds", "1 in 0..2 bounds");
        one("verdict", THREE_CLAIMS, "2 in 0..2 bounds", "1 in 0..2 bounds");
        one("ofPerson", "", "0 in 0..7 bounds", "0 in 0..3 argument");
        one("ofStone", STONES, "0 in 0..1 bounds", "0 in 0..7 argument");
        one("purse", "", "0 in 0..4 bounds");
        one("carats", "", "0 in 0..5 argument");
        one("plan", THREE_CLAIMS, "0 in 0..2 bounds", "1 in 0..3 argument");
        one("planAnew", THREE_CLAIMS, "0 in 0..2 bounds", "1 in 0..3 argument");
    }

    /** In a state in which the call goes well, and in one that refuses it. */
    private static void both(String call, String well, String refusing, String... arguments) {
        one(call, well, arguments);
        if (!play().startsWith("java")) {
            one(call, refusing, arguments);
            String got = play();
            Script.check(call, got.equals(Script.nameOf("state")), "is not refused, but answers " + got);
        } else {
            Script.check(call, false, "does not go well, but answers " + play());
        }
    }

    private static void one(String call, String before, String... arguments) {
        name = call;
        state = before;
        kinds = new String[arguments.length];
        good = new int[arguments.length];
        least = new int[arguments.length];
        most = new int[arguments.length];
        for (int i = 0; i < arguments.length; i++) {
            String[] parts = arguments[i].split(" in |\\.\\.| ");
            good[i] = Integer.parseInt(parts[0]);
            least[i] = Integer.parseInt(parts[1]);
            most[i] = Integer.parseInt(parts[2]);
            kinds[i] = parts[3];
        }
        for (int i = 0; i < arguments.length; i++) {
            inRange(i);
            outOfRange(i);
        }
    }

    private static void inRange(int at) {
        for (int value : new int[] {least[at], most[at]}) {
            String got = play(at, value);
            boolean in = !got.equals(Script.nameOf("bounds")) && !got.equals(Script.nameOf("argument"));
            // Two CLAIMS that are the same are no fault of either one's range.
            Script.check(told(at, value), in || name.equals("verdict") && value == good[1 - at], "answered " + got);
        }
    }

    private static void outOfRange(int at) {
        for (int value : beyond(at)) {
            if (value >= least[at] && value <= most[at]) {
                continue;
            }
            due(kinds[at], at, value);
            for (int other = 0; other < good.length; other++) {
                if (other != at) {
                    String first = kinds[at].equals("bounds") ? "bounds" : kinds[other];
                    due(first, at, value, other, least[other] - 1);
                    due(first, at, value, other, most[other] + 1);
                    due(first, at, value, other, Integer.MAX_VALUE);
                    due(first, at, value, other, Integer.MIN_VALUE);
                }
            }
        }
    }

    private static int[] beyond(int at) {
        return new int[] {least[at] - 1, most[at] + 1, least[at] - 2, most[at] + 2, Integer.MIN_VALUE,
            Integer.MIN_VALUE + good[at], Integer.MAX_VALUE, Integer.MAX_VALUE - good[at],
            good[at] + 65536, good[at] - 65536, good[at] + (1 << 17), -1000, -most[at] - 1};
    }

    private static void due(String kind, int... changed) {
        String got = play(changed);
        Script.check(told(changed), got.equals(Script.nameOf(kind)), "answered " + got + ", due is " + kind);
    }

    /** Plays the call behind its state, with those arguments changed: place, value, place, value. */
    private static String play(int... changed) {
        return new Script(name).play(state).answer(call(changed));
    }

    private static String told(int... changed) {
        return "behind " + state + " " + call(changed);
    }

    private static String call(int... changed) {
        int[] values = good.clone();
        for (int i = 0; i < changed.length; i += 2) {
            values[changed[i]] = changed[i + 1];
        }
        StringBuilder text = new StringBuilder(name).append('(');
        for (int i = 0; i < values.length; i++) {
            text.append(i == 0 ? "" : ", ").append(values[i]);
        }
        return text.append(')').toString();
    }
}
