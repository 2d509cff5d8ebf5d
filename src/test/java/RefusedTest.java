import java.util.ArrayList;
import java.util.List;

/**
 * "A call that throws an exception changes nothing": each reason for which a call is refused, and
 * behind it everything that can be looked at, and all that can be done on, is as on a twin that was
 * spared the call.
 */
public final class RefusedTest {
    private static final int AT_A_TIME = 300;
    /** PERSON 0 has the CLAIM 0 and PERSON 1 the CLAIM 1; two STONES lie in the PARCEL of CLAIM 0. */
    private static final String FIELD = """
        seam(0, 100, 2); seam(1, 9, 0); seam(2, 30, 1); seam(12, 31, 1); seam(31, 32, 0); peg(0, 0, 2, 4); peg(1, 20, 2, 4)
        partner(0, 2, 5); sink(0, 0, 0) = 100; dig(0, 0, 1) = 9;
        """;
    private static final String RUBBLE = FIELD + "dig(0, 0, 2) = 30; dig(0, 0, 3); ofCell(0, 0) = 2; ofCell(3, 0) = 2; trap(0, 0, 3) = 1;";
    private static final String CAUGHT = FIELD + "trap(0, 0, 10) = 1; trap(0, 0, 2) = 2; sink(1, 1, 20); rat(1, 10) = -1;";
    private static final String DIVIDED = FIELD + "divide(0) = 2; ofStone(0, 2) = 0; ofStone(1, 2) = 2; bid(4, 0, 20); bid(2, 0, 30);";
    private static final String SOLD = DIVIDED + "rub(0) = 90; sell(0) = 2; rub(1) = 9;";
    private static final List<String> LOOKS = new ArrayList<>();
    private static final List<String> DEEDS = new ArrayList<>();

    public static void main(String[] args) {
        listLooks();
        listDeeds();
        ground();
        claims();
        digging();
        ratters();
        stones();
        looks();
        Script.end("RefusedTest");
    }

    private static void ground() {
        refused("state", FIELD, "seam(0, 5, 5)", "seam(2, 5, 5)", "seam(2, 30, 1)");
        refused("state", RUBBLE, "seam(3, 5, 5)", "seam(0, 5, 5)");
        refused("argument", FIELD, "seam(40, 0, 5)", "seam(40, 1000, 5)", "seam(40, 5, -1)", "seam(40, 5, 10)");
        refused("bounds", FIELD, "seam(-1, 5, 5)", "seam(100, 5, 5)");
        refused("argument", FIELD, "pass(0)", "pass(100)", "pass(-1)");
        refused("state", FIELD + "50 times pass(99);", "pass(51)", "pass(99)");
        refused("state", FIELD + "50 times pass(99); pass(50) = 5000;", "pass(1)");
    }

    private static void claims() {
        refused("bounds", FIELD, "peg(-1, 0, 1, 1)", "peg(8, 0, 1, 1)", "peg(0, -1, 1, 1)", "peg(0, 100, 1, 1)");
        refused("argument", FIELD, "peg(0, 0, 0, 1)", "peg(0, 0, 5, 1)", "peg(0, 0, 1, 0)", "peg(0, 0, 1, 5)",
                "peg(0, 99, 2, 1)", "peg(0, 99, 1, 2)", "peg(0, 7, 1, 4)", "peg(0, 70, 4, 1)");
        refused("state", FIELD + "10 times peg(3, 50, 1, 1);", "peg(0, 0, 1, 1)");
        refused("state", CAUGHT, "peg(1, 0, 1, 1)");
        refused("bounds", FIELD, "witness(-1, 3, 0)", "witness(2, 3, 0)", "witness(0, -1, 0)", "witness(0, 8, 0)");
        refused("argument", FIELD + "pass(7);", "witness(0, 3, -1)", "witness(0, 3, 8)");
        refused("state", FIELD + "pass(7); witness(0, 3, 6); witness(0, 4, 2);",
                "witness(0, 0, 5)", "witness(0, 2, 5)", "witness(0, 3, 0)", "witness(0, 4, 7)", "witness(1, 1, 7)");
        refused("bounds", FIELD, "partner(-1, 3, 1)", "partner(2, 3, 1)", "partner(0, -1, 1)", "partner(0, 8, 1)");
        refused("argument", FIELD, "partner(0, 3, 0)", "partner(0, 3, 12)", "partner(0, 3, -1)");
        refused("state", FIELD, "partner(0, 0, 1)", "partner(0, 2, 1)", "partner(0, 3, 7)", "partner(0, 3, 11)");
    }

    private static void digging() {
        String[] out = {"(-1, 0, 2)", "(2, 0, 2)", "(0, -1, 2)", "(0, 8, 2)", "(0, 0, -1)", "(0, 0, 100)"};
        for (String name : new String[] {"dig", "sink", "prop", "trap"}) {
            for (String arguments : out) {
                refused("bounds", FIELD, name + arguments);
            }
            int cell = name.equals("prop") ? 1 : 2;
            refused("state", FIELD, name + "(0, 1, " + cell + ")", name + "(0, 7, " + cell + ")", name + "(1, 1, " + cell + ")",
                    name + "(0, 0, 20)", name + "(0, 0, 4)", name + "(1, 0, 20)");
            refused("state", FIELD + "pass(72);", name + "(0, 0, " + cell + ")");
            refused("state", CAUGHT, name + "(1, 1, " + (name.equals("prop") ? 20 : 21) + ")");
        }
        refused("state", FIELD, "dig(0, 0, 0)", "dig(0, 0, 3)", "dig(0, 0, 12)", "dig(0, 0, 13)", "dig(1, 1, 20)");
        refused("state", RUBBLE, "dig(0, 0, 0)", "dig(0, 0, 10)", "prop(0, 0, 0)");
        refused("state", FIELD + "sink(0, 2, 13);", "sink(0, 0, 2)", "sink(0, 0, 3)", "sink(0, 0, 13)");
        refused("state", FIELD, "sink(0, 0, 0)", "prop(0, 0, 2)", "trap(0, 0, 0)");
        refused("state", FIELD + "prop(0, 0, 0);", "prop(0, 0, 0)", "prop(0, 2, 0)", "trap(0, 0, 0)", "dig(0, 0, 0)");
        refused("state", FIELD + "trap(0, 0, 2); trap(0, 0, 3); trap(0, 0, 12);", "trap(0, 0, 13)", "trap(0, 2, 2)");
    }

    private static void ratters() {
        refused("bounds", FIELD, "rat(-1, 2)", "rat(8, 2)", "rat(3, -1)", "rat(3, 100)");
        refused("state", FIELD, "rat(0, 2)", "rat(2, 2)", "rat(3, 0)", "rat(3, 3)", "rat(3, 13)", "rat(3, 20)", "rat(3, 44)");
        refused("state", FIELD + "trap(0, 0, 13); trap(0, 0, 2);", "rat(3, 13)", "rat(0, 2)");
        refused("state", FIELD + "pass(5);", "rat(3, 2)");
        refused("state", FIELD + "trap(0, 0, 2); pass(20);", "rat(3, 2)");
        refused("state", FIELD + "pass(72);", "rat(3, 2)");
        refused("state", CAUGHT, "rat(1, 10)", "rat(1, 2)", "rat(1, 11)");
    }

    private static void stones() {
        refused("bounds", FIELD, "divide(-1)", "divide(2)");
        refused("state", FIELD, "divide(1)");
        refused("state", DIVIDED, "divide(0)", "divide(1)");
        refused("bounds", FIELD, "rub(-1)", "rub(2)", "sell(-1)", "sell(2)");
        refused("state", FIELD, "rub(0)", "rub(1)", "sell(0)", "bid(0, 0, 5)");
        refused("state", SOLD, "rub(0)", "sell(0)", "bid(0, 0, 5)", "bid(4, 0, 99)", "sell(1)");
        refused("state", DIVIDED + "3 times rub(1); ofStone(1, 1) = 2;", "rub(1)", "sell(1)");
        refused("bounds", DIVIDED, "bid(-1, 0, 5)", "bid(5, 0, 5)", "bid(0, -1, 5)", "bid(0, 2, 5)");
        refused("argument", DIVIDED, "bid(0, 0, 0)", "bid(0, 0, 100000)", "bid(4, 0, 0)");
        refused("state", DIVIDED, "bid(4, 0, 99)", "bid(2, 0, 1)", "bid(2, 0, 30)");
        refused("state", DIVIDED + "bid(0, 1, 20001); bid(1, 1, 99999);", "sell(1)", "bid(0, 1, 7)");
        refused("state", DIVIDED + "bid(2, 1, 19971); sell(0) = 2;", "sell(1)", "sell(0)");
    }

    private static void looks() {
        refused("bounds", SOLD, "bore(-1)", "bore(100)", "ofCell(100, 0)", "ofClaim(2, 0)", "share(2, 0)", "share(0, 8)",
                "verdict(0, 2)", "verdict(2, 0)", "verdict(2, 2)", "ofPerson(8, 0)", "ofStone(2, 0)", "purse(5)", "plan(2, 1)",
                "planAnew(2, 1)");
        refused("argument", SOLD, "ofCell(0, 4)", "ofClaim(0, 7)", "verdict(1, 1)", "ofPerson(0, 4)", "ofStone(0, 8)", "carats(6)",
                "plan(0, 4)", "planAnew(0, 4)", "plan(0, -1)", "planAnew(0, -1)");
    }

    private static void refused(String kind, String state, String... calls) {
        for (String call : calls) {
            Script.check(call, new Script(call).play(state).answer(call).equals(Script.nameOf(kind)), "is not refused behind " + state);
            for (int from = 0; from < LOOKS.size(); from += AT_A_TIME) {
                asOnTwin(state, call, LOOKS.subList(from, Math.min(from + AT_A_TIME, LOOKS.size())));
            }
            asOnTwin(state, call, DEEDS);
        }
    }

    private static void asOnTwin(String state, String call, List<String> behind) {
        Script one = new Script(call).play(state);
        Script twin = new Script(call).play(state);
        one.answer(call);
        for (String next : behind) {
            String got = one.answer(next);
            String due = twin.answer(next);
            Script.check(state + " " + call + " " + next, got.equals(due), "answered " + got + ", and without the refused call " + due);
        }
    }

    private static void listLooks() {
        LOOKS.add("hour()");
        for (int cell = 0; cell < 100; cell++) {
            LOOKS.add("bore(" + cell + ")");
            all("ofCell(" + cell + ", ", 4);
        }
        for (int claim = 0; claim < 12; claim++) {
            all("ofClaim(" + claim + ", ", 7);
            all("share(" + claim + ", ", 8);
            all("verdict(" + claim + ", ", 3);
            all("plan(" + claim + ", ", 4);
            all("planAnew(" + claim + ", ", 4);
        }
        for (int stone = 0; stone < 6; stone++) {
            all("ofStone(" + stone + ", ", 8);
        }
        for (int person = 0; person < 8; person++) {
            all("ofPerson(" + person + ", ", 4);
        }
        all("purse(", 5);
        all("carats(", 6);
    }

    private static void all(String begun, int count) {
        for (int last = 0; last < count; last++) {
            LOOKS.add(begun + last + ")");
        }
    }

    /** What shows the rest: who witnessed and bid, whose traps lie there, who is BARRED, the hour. */
    private static void listDeeds() {
        for (int person = 0; person < 8; person++) {
            DEEDS.add("witness(0, " + person + ", 0)");
            DEEDS.add("peg(" + person + ", 77, 1, 1)");
        }
        for (int cell = 0; cell < 36; cell++) {
            DEEDS.add("trap(0, 0, " + cell + ")");
            DEEDS.add("trap(1, 1, " + cell + ")");
            DEEDS.add("rat(3, " + cell + ")");
            DEEDS.add("dig(0, 0, " + cell + ")");
            DEEDS.add("prop(0, 0, " + cell + ")");
        }
        for (int stone = 0; stone < 4; stone++) {
            for (int buyer = 0; buyer < 5; buyer++) {
                DEEDS.add("bid(" + buyer + ", " + stone + ", " + (7 + buyer % 2) + ")");
            }
            DEEDS.add("rub(" + stone + ")");
            DEEDS.add("sell(" + stone + ")");
            DEEDS.add("divide(" + stone + ")");
            DEEDS.add("ofStone(" + stone + ", 2)");
        }
        for (int cell = 0; cell < 36; cell++) {
            DEEDS.add("sink(0, 0, " + cell + ")");
            DEEDS.add("dig(1, 1, " + cell + ")");
        }
        DEEDS.add("pass(99)");
        DEEDS.add("seam(44, 5, 5)");
        DEEDS.add("seam(40, 5, 5)");
        DEEDS.add("carats(0)");
    }
}
