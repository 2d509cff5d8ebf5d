import java.util.Arrays;

/** The sentences under "Terms" on ground, hours and CLAIMS that name a boundary: each is a title here. */
public final class GroundTermsTest {
    /** CLAIMS of PERSON 0, 4 by 4 and at the ends less, that HOLD the whole ground; the lower HOLDS. */
    static final String WHOLE_GROUND = """
        peg(0, 0, 4, 4); peg(0, 4, 4, 4); peg(0, 6, 4, 4); peg(0, 40, 4, 4); peg(0, 44, 4, 4); peg(0, 46, 4, 4)
        peg(0, 60, 4, 4); peg(0, 64, 4, 4); peg(0, 66, 4, 4);
        """;

    public static void main(String[] args) {
        hours();
        night();
        rectangles();
        neighbours();
        cells();
        bores();
        claimsAndPeople();
        middleHours();
        witnesses();
        live();
        lapsed();
        notToWork();
        holds();
        common();
        ahead();
        Script.end("GroundTermsTest");
    }

    /** The CLAIM of WHOLE_GROUND that HOLDS a CELL. */
    static int holder(int cell) {
        return Math.min(cell / 10 / 4, 2) * 3 + Math.min(cell % 10 / 4, 2);
    }

    private static void hours() {
        Script.run("Hours are counted from 0", "hour() = 0; pass(1) = 1; hour() = 1");
        Script.run("Hours are counted from 0, at most 5000", """
            50 times pass(99); hour() = 4950; pass(51) ! state; pass(99) ! state; pass(49) = 4999; pass(2) ! state; hour() = 4999
            pass(1) = 5000; pass(1) ! state; pass(2) ! state; pass(99) ! state; hour() = 5000; pass(0) ! argument; hour() = 5000
            """);
        Script.run("at most 5000: all else goes on there", """
            50 times pass(99); pass(50) = 5000; peg(0, 0, 1, 2) = 0; ofClaim(0, 1) = 5000; witness(0, 1, 5001) ! argument; witness(0, 1, 5000) = 5000
            witness(0, 2, 0) = 0; seam(1, 7, 0); sink(0, 0, 0) = 0; dig(0, 0, 1) = 7; ofClaim(0, 6) = 72; divide(0) = 1; ofCell(0, 3) = 0
            """);
    }

    private static void night() {
        for (int hour = 0; hour <= 100; hour++) {
            nightAt(hour);
        }
        for (int hour = 4965; hour <= 5000; hour++) {
            nightAt(hour);
        }
    }

    private static void nightAt(int hour) {
        Script script = new Script("it is NIGHT, if that is 21 to 23 or 0 to 4: hour " + hour);
        script.play(hour / 99 + " times pass(99)");
        if (hour % 99 > 0) {
            script.play("pass(" + hour % 99 + ") = " + hour);
        }
        boolean night = hour % 24 >= 21 || hour % 24 <= 4;
        script.play("peg(0, 0, 1, 2); sink(0, 0, 0); rat(1, 1) " + (night ? "= 0" : "! state"));
        script.play("ofCell(1, 0) = " + (night ? 1 : 0));
    }

    private static void rectangles() {
        for (int cell = 0; cell < 100; cell++) {
            for (int rows = 1; rows <= 4; rows++) {
                for (int columns = 1; columns <= 4; columns++) {
                    rectangle(cell, rows, columns);
                }
            }
        }
    }

    private static void rectangle(int cell, int rows, int columns) {
        Script script = new Script("the row is the CELL divided by 10, the column its remainder");
        boolean fits = cell / 10 + rows <= 10 && cell % 10 + columns <= 10;
        script.play("peg(7, " + cell + ", " + rows + ", " + columns + ") " + (fits ? "= 0" : "! argument"));
        if (!fits) {
            script.play("ofClaim(0, 0) ! bounds; ofCell(" + cell + ", 3) = -1");
            return;
        }
        script.play("ofClaim(0, 3) = " + rows * columns);
        for (int other = 0; other < 100; other++) {
            int down = other / 10 - cell / 10;
            int across = other % 10 - cell % 10;
            boolean in = down >= 0 && down < rows && across >= 0 && across < columns;
            script.play("ofCell(" + other + ", 3) = " + (in ? 0 : -1));
        }
    }

    /** Whatever is not a neighbour cannot be dug, nor ratted, and the neighbours can. */
    private static void neighbours() {
        for (int cell = 0; cell < 100; cell++) {
            Script digs = new Script("Neighbours share a side: dig beside " + cell).play(WHOLE_GROUND);
            Script rats = new Script("Neighbours share a side: rat beside " + cell).play(WHOLE_GROUND);
            String shaft = "sink(" + holder(cell) + ", 0, " + cell + ")";
            digs.play(shaft);
            rats.play(shaft);
            for (int turn = 0; turn < 2; turn++) {
                for (int other = 0; other < 100; other++) {
                    int far = Math.abs(other / 10 - cell / 10) + Math.abs(other % 10 - cell % 10);
                    if ((far == 1) == (turn == 1)) {
                        digs.play("dig(" + holder(other) + ", 0, " + other + ") " + (far == 1 ? "= 0" : "! state"));
                        rats.play("rat(1, " + other + ") " + (far == 1 ? "= 0" : "! state"));
                    }
                }
            }
        }
    }

    private static void cells() {
        Script.run("SOLID at first; as it is SOLID, its carats, 0 at first, and its depth can be told, once", """
            ofCell(0, 0) = 0; ofCell(99, 0) = 0; peg(0, 0, 1, 4); sink(0, 0, 0) = 0; dig(0, 0, 1) = 0; ofStone(0, 0) ! bounds; carats(0) = 0
            seam(0, 5, 5) ! state; dig(0, 0, 2) = 0; dig(0, 0, 3) = 0; ofCell(0, 0) = 2; seam(0, 5, 5) ! state; carats(0) = 0
            seam(4, 5, 5); seam(4, 5, 5) ! state; seam(4, 6, 0) ! state; carats(0) = 5
            """);
        Script.run("can be told, once: the least there is to tell, and the most", """
            seam(0, 1, 0); seam(0, 1, 0) ! state; seam(0, 999, 9) ! state; seam(99, 999, 9); seam(99, 999, 9) ! state; seam(99, 1, 0) ! state; carats(0) = 1000; carats(1) = 1000
            """);
        Script.run("can be told, once: not again as it is OPEN or RUBBLE", """
            seam(0, 9, 0); seam(3, 8, 1); peg(0, 0, 1, 4); sink(0, 0, 0) = 9; seam(0, 9, 0) ! state; dig(0, 0, 1); dig(0, 0, 2); dig(0, 0, 3) = 8
            ofCell(3, 0) = 2; seam(3, 8, 1) ! state; seam(1, 8, 1) ! state; dig(0, 0, 3) ! state; sink(0, 0, 3) = 0; carats(0) = 17; carats(1) = 0; carats(2) = 17
            """);
        for (int depth = 0; depth <= 9; depth++) {
            Script.run("its depth can be told: " + depth, "seam(0, 999, " + depth + "); peg(0, 0, 1, 1); sink(0, 0, 0) = 999; ofStone(0, 1) = "
                    + (depth == 0 ? 1 : 0) + "; ofStone(0, 4) = " + (depth == 0 ? 9990 : 1998));
        }
    }

    private static void bores() {
        Script none = new Script("A BORE tells how many of it and its neighbours have carats: none");
        Script all = new Script("A BORE tells how many of it and its neighbours have carats: all");
        for (int cell = 0; cell < 100; cell++) {
            none.play("bore(" + cell + ") = 0");
            all.play("seam(" + cell + ", 1, 0)");
        }
        for (int cell = 0; cell < 100; cell++) {
            boolean endOfRow = cell % 10 == 0 || cell % 10 == 9;
            boolean endOfColumn = cell < 10 || cell > 89;
            all.play("bore(" + cell + ") = " + (5 - (endOfRow ? 1 : 0) - (endOfColumn ? 1 : 0)));
            oneBore(cell);
        }
    }

    private static void oneBore(int cell) {
        Script script = new Script("A BORE tells of it and its neighbours: " + cell).play("seam(" + cell + ", 1, 9)");
        for (int other = 0; other < 100; other++) {
            int far = Math.abs(other / 10 - cell / 10) + Math.abs(other % 10 - cell % 10);
            script.play("bore(" + other + ") = " + (far <= 1 ? 1 : 0));
        }
        script.play("peg(0, " + cell + ", 1, 1); sink(0, 0, " + cell + ") = 1; bore(" + cell + ") = 0");
    }

    private static void claimsAndPeople() {
        Script twelve = new Script("CLAIMS are numbered from 0, at most 12");
        for (int claim = 0; claim < 12; claim++) {
            twelve.play("ofClaim(" + claim + ", 0) ! bounds; peg(" + claim % 8 + ", " + claim + ", 1, 1) = " + claim + "; ofClaim(" + claim + ", 0) = " + claim % 8);
        }
        twelve.play("peg(0, 50, 1, 1) ! state; ofClaim(12, 0) ! bounds; ofCell(50, 3) = -1; pass(72); ofClaim(11, 2) = 0; peg(0, 50, 1, 1) ! state");
        Script.run("the owner has what the partners have not, 1 at least", """
            peg(3, 0, 1, 1); share(0, 3) = 12; partner(0, 4, 12) ! argument; partner(0, 4, 0) ! argument; partner(0, 4, 11) = 1; share(0, 3) = 1; partner(0, 5, 1) ! state
            peg(3, 0, 1, 1); partner(1, 0, 1) = 11; partner(1, 1, 11) ! state; partner(1, 1, 10) = 1; partner(1, 2, 1) ! state; share(1, 3) = 1; share(1, 1) = 10; share(1, 2) = 0
            """);
        Script all = new Script("Its PEOPLE are its owner and its partners: all PERSONS").play("peg(3, 0, 1, 1)");
        for (int person = 0; person < 8; person++) {
            if (person != 3) {
                all.play("partner(0, " + person + ", 1); share(0, " + person + ") = 1");
            }
            all.play("partner(0, " + person + ", 1) ! state; witness(0, " + person + ", 0) ! state");
        }
        all.play("share(0, 3) = 5; ofClaim(0, 1) = 0");
    }

    private static void middleHours() {
        int[][] orders = {{1, 2, 3, 4, 5, 6, 7}, {7, 6, 5, 4, 3, 2, 1}, {4, 1, 7, 2, 6, 3, 5}, {3, 3, 3, 8, 8, 8, 8}, {9, 0, 9, 0, 9, 0, 9},
            {5, 5, 5, 5, 5, 5, 5}, {2, 9, 2, 9, 4, 4, 4}, {20, 0, 20, 0, 0, 20, 10}, {0, 20, 1, 19, 2, 18, 3}, {8, 8, 3, 3, 3, 3, 8}};
        for (int[] order : orders) {
            Script script = new Script("the middle one of the hours that they told, by size, of two in the middle the lesser");
            script.play("pass(20); peg(2, 0, 1, 1); ofClaim(0, 1) = 20");
            for (int told = 1; told <= 7; told++) {
                int[] sorted = Arrays.copyOf(order, told);
                Arrays.sort(sorted);
                int person = told <= 2 ? told - 1 : told;
                int due = sorted[(told - 1) / 2];
                script.play("witness(0, " + person + ", " + order[told - 1] + ") = " + due + "; ofClaim(0, 1) = " + due);
            }
        }
    }

    private static void witnesses() {
        Script.run("The HOUR of a CLAIM is that at which it was pegged", "peg(0, 0, 1, 1); pass(30); peg(0, 1, 1, 1); ofClaim(0, 1) = 0; ofClaim(1, 1) = 30; pass(5); sink(0, 0, 0); ofClaim(0, 1) = 0");
        Script.run("PERSONS who are none of its PEOPLE as they tell it", """
            pass(9); peg(0, 0, 1, 1); partner(0, 1, 1); witness(0, 0, 4) ! state; witness(0, 1, 4) ! state; ofClaim(0, 1) = 9; witness(0, 2, 4) = 4
            witness(0, 2, 4) ! state; partner(0, 2, 1); witness(0, 2, 7) ! state; ofClaim(0, 1) = 4
            """);
        Script.run("What was witnessed stays, also if a witness becomes a partner", """
            pass(9); peg(0, 0, 1, 1); witness(0, 1, 2) = 2; witness(0, 2, 8) = 2; partner(0, 1, 5); ofClaim(0, 1) = 2; partner(0, 2, 1); ofClaim(0, 1) = 2
            witness(0, 3, 8) = 8; witness(0, 4, 1) = 2
            """);
        Script.run("hour: 0 to the present one", "peg(0, 0, 1, 1); witness(0, 1, 0) = 0; witness(0, 2, 1) ! argument; pass(99); witness(0, 2, 99) = 0; witness(0, 3, 100) ! argument; witness(0, 3, 99) = 99");
        Script.run("who witnessed another CLAIM can witness this one", "peg(0, 0, 1, 1); peg(1, 0, 1, 1); pass(3); witness(0, 2, 1) = 1; witness(1, 2, 2) = 2; witness(1, 0, 3) = 2; witness(0, 1, 3) = 1");
    }

    private static void live() {
        String[] works = {"", "sink(0, 0, 0);", "dig(0, 0, 1);"};
        for (String work : works) {
            Script script = new Script("LIVE as long as fewer than 72 hours are over since it was pegged, or worked: " + work);
            script.play("pass(7); peg(0, 0, 1, 4); peg(1, 0, 1, 4); peg(1, 10, 1, 2)");
            if (work.startsWith("dig")) {
                script.play("sink(0, 0, 0); pass(30)");
            } else if (!work.isEmpty()) {
                script.play("pass(71)");
            }
            script.play(work + "ofClaim(0, 6) = 72; pass(70); ofClaim(0, 6) = 2; ofClaim(0, 2) = 1; pass(1); ofClaim(0, 6) = 1; ofClaim(0, 2) = 1; ofClaim(0, 3) = 4; ofCell(3, 3) = 0");
            script.play("pass(1); ofClaim(0, 6) = 0; ofClaim(0, 2) = 0; ofClaim(0, 3) = 0; pass(1); ofClaim(0, 6) = 0; ofClaim(0, 2) = 0; verdict(0, 1) = -1; verdict(1, 0) = -1");
        }
        Script.run("whatever its HOUR", """
            pass(99); peg(0, 0, 1, 1); witness(0, 1, 0) = 0; ofClaim(0, 2) = 1; ofClaim(0, 6) = 72; pass(71); ofClaim(0, 2) = 1; witness(0, 2, 170) = 0; witness(0, 3, 170) = 170
            ofClaim(0, 6) = 1; pass(1); ofClaim(0, 2) = 0; ofClaim(0, 1) = 170
            """);
    }

    private static void lapsed() {
        Script.run("then it LAPSES, for good", """
            peg(0, 0, 1, 4); sink(0, 0, 0); pass(71); dig(0, 0, 1) = 0; pass(72); ofClaim(0, 2) = 0; dig(0, 0, 2) ! state; sink(0, 0, 2) ! state; trap(0, 0, 2) ! state; prop(0, 0, 0) ! state
            rat(1, 2) ! state; ofCell(2, 3) = -1; ofClaim(0, 2) = 0; ofClaim(0, 6) = 0; pass(1); ofClaim(0, 2) = 0; peg(0, 0, 1, 4); dig(1, 0, 2) = 0; ofClaim(0, 2) = 0; ofClaim(1, 2) = 1; ofClaim(0, 3) = 0
            """);
        Script.run("but it can be witnessed, have partners, and be divided still", """
            seam(0, 9, 0); peg(0, 0, 1, 4); sink(0, 0, 0); pass(99); ofClaim(0, 2) = 0; witness(0, 1, 50) = 50; partner(0, 2, 7) = 5; divide(0) = 1; ofStone(0, 2) = 2; ofClaim(0, 2) = 0; ofClaim(0, 6) = 0
            divide(0) ! state; partner(0, 2, 1) ! state; partner(0, 3, 5) ! state; witness(0, 1, 50) ! state; witness(0, 3, 100) ! argument; ofClaim(0, 1) = 50
            """);
    }

    /** What is done at the hour 21, 51 hours ahead of the end, must not put it off. */
    private static void notToWork() {
        String[] deeds = {"prop(0, 0, 0)", "trap(0, 0, 2)", "rat(5, 1) = 0", "partner(0, 1, 1)", "witness(0, 1, 21)", "divide(0) = 1",
            "trap(0, 0, 1); rat(5, 1) = -1", "dig(0, 0, 0) ! state", "sink(0, 0, 0) ! state", "dig(0, 5, 1) ! state", "dig(1, 4, 11) = 0", "sink(1, 4, 11) = 0",
            "rub(1) = 9", "bid(0, 1, 5)", "plan(0, 3) = 0", "planAnew(0, 3) = 0", "bore(0) = 0"};
        for (String deed : deeds) {
            Script script = new Script("Both is to work the CLAIM, and nothing else is: " + deed);
            script.play("seam(0, 9, 0); seam(20, 10, 0); peg(0, 0, 1, 4); peg(4, 10, 2, 4); sink(0, 0, 0) = 9; rat(6, 10) = 0; rat(6, 20) = 10; pass(21)");
            script.play(deed + "; ofClaim(0, 6) = 51");
            script.play("pass(50); ofClaim(0, 2) = 1; pass(1); ofClaim(0, 2) = 0");
        }
    }

    private static void holds() {
        Script.run("that with the least HOUR HOLDS it", """
            pass(9); peg(0, 0, 2, 2); pass(1); peg(1, 0, 2, 2); pass(1); peg(2, 0, 2, 2); ofCell(0, 3) = 0; witness(2, 5, 8); ofCell(0, 3) = 2; witness(1, 5, 7); ofCell(0, 3) = 1
            witness(1, 6, 11) = 7; witness(1, 7, 11) = 11; ofCell(0, 3) = 2; ofCell(11, 3) = 2; ofCell(12, 3) = -1; ofClaim(0, 3) = 0; ofClaim(1, 3) = 0; ofClaim(2, 3) = 4
            """);
        Script.run("of several the lowest", """
            peg(0, 0, 2, 2); peg(1, 0, 2, 2); peg(2, 0, 2, 2); ofCell(0, 3) = 0; pass(3); witness(0, 5, 3); ofCell(0, 3) = 1; witness(1, 5, 2); witness(2, 5, 2); ofCell(0, 3) = 1
            witness(0, 6, 2) = 2; ofCell(0, 3) = 0; ofClaim(0, 3) = 4; ofClaim(1, 3) = 0
            """);
        Script.run("Of the LIVE CLAIMS", """
            peg(0, 0, 1, 1); peg(1, 0, 1, 2); pass(50); peg(2, 0, 1, 2); ofCell(0, 3) = 0; ofCell(1, 3) = 1; pass(21); ofCell(0, 3) = 0; pass(1); ofCell(0, 3) = 2; ofCell(1, 3) = 2; witness(0, 5, 0)
            ofCell(0, 3) = 2; pass(49); ofCell(1, 3) = 2; pass(1); ofCell(1, 3) = -1; ofCell(0, 3) = -1
            """);
        Script.run("that have a CELL in their rectangles", """
            peg(0, 99, 1, 1); peg(1, 88, 2, 2); peg(2, 9, 2, 1); peg(3, 90, 1, 2); ofCell(99, 3) = 0; ofCell(98, 3) = 1; ofCell(89, 3) = 1; ofCell(88, 3) = 1; ofCell(9, 3) = 2; ofCell(19, 3) = 2
            ofCell(10, 3) = -1; ofCell(20, 3) = -1; ofCell(8, 3) = -1; ofCell(29, 3) = -1; ofCell(87, 3) = -1; ofCell(78, 3) = -1; ofCell(80, 3) = -1; ofCell(90, 3) = 3; ofCell(92, 3) = -1; ofClaim(1, 3) = 3
            """);
    }

    /** Each rectangle against one in the middle, eleven at a time. */
    private static void common() {
        for (int size = 1; size <= 4; size++) {
            Script script = null;
            int pegged = 12;
            for (int other = 0; other < 100 * 16; other++) {
                int cell = other / 16;
                int rows = other / 4 % 4 + 1;
                int columns = other % 4 + 1;
                if (cell / 10 + rows <= 10 && cell % 10 + columns <= 10) {
                    if (pegged == 12) {
                        script = new Script("NONE if they have no CELL in common").play("peg(0, 34, " + size + ", " + (5 - size) + ") = 0");
                        pegged = 1;
                    }
                    boolean down = cell / 10 < 3 + size && cell / 10 + rows > 3;
                    boolean across = cell % 10 < 9 - size && cell % 10 + columns > 4;
                    int due = down && across ? 0 : -1;
                    script.play("peg(1, " + cell + ", " + rows + ", " + columns + ") = " + pegged);
                    script.play("verdict(0, " + pegged + ") = " + due + "; verdict(" + pegged + ", 0) = " + due);
                    pegged++;
                }
            }
        }
    }

    private static void ahead() {
        Script.run("by the least HOUR, of several the lowest", """
            peg(0, 0, 2, 2); peg(1, 11, 2, 2); peg(2, 0, 2, 2); verdict(0, 1) = 0; verdict(1, 0) = 0; verdict(2, 1) = 1; verdict(1, 2) = 1; pass(9); witness(0, 7, 5); verdict(0, 1) = 1; verdict(1, 0) = 1; verdict(0, 2) = 2
            witness(1, 7, 5); verdict(0, 1) = 0; verdict(1, 0) = 0; verdict(1, 2) = 2; witness(1, 6, 4) = 4; verdict(0, 1) = 1; verdict(1, 0) = 1; verdict(1, 1) ! argument; verdict(3, 3) ! bounds; verdict(0, 3) ! bounds
            """);
        Script.run("NONE if one of both is not LIVE", """
            peg(0, 0, 2, 2); pass(1); peg(1, 0, 2, 2); pass(70); verdict(0, 1) = 0; verdict(1, 0) = 0; pass(1) = 72; verdict(0, 1) = -1; verdict(1, 0) = -1; peg(2, 0, 1, 1); verdict(1, 2) = 1; verdict(0, 2) = -1; pass(1)
            verdict(1, 2) = -1; verdict(2, 1) = -1; verdict(0, 1) = -1
            """);
        Script.run("where both have a CELL: whoever HOLDS it", "peg(0, 0, 1, 1); pass(1); peg(1, 0, 1, 1); pass(1); peg(2, 0, 1, 1); verdict(1, 2) = 1; verdict(2, 1) = 1; ofCell(0, 3) = 0");
    }
}
