/** The sentences under "Digging" and "Ratters" that name a boundary: each is a title here. */
public final class DiggingTermsTest {
    /** PERSON 1, who owns CLAIM 1 with PERSON 4, is CAUGHT at the hour 0; CLAIM 0 has 2 traps left. */
    private static final String CAUGHT = """
        peg(0, 0, 1, 4); peg(1, 10, 3, 4); partner(1, 4, 6); sink(0, 0, 0); trap(0, 0, 1); trap(0, 0, 2); trap(0, 0, 3) = 3
        sink(1, 1, 13); rat(1, 1) = -1; ofPerson(1, 1) = 168
        """;
    /** Works both CLAIMS till the hour 167, the last one at which PERSON 1 is BARRED. */
    private static final String TO_167 = "pass(60); sink(0, 0, 2); sink(1, 4, 31); pass(60); dig(0, 0, 1); dig(1, 4, 21); pass(47) = 167;";

    public static void main(String[] args) {
        dig();
        sink();
        found();
        prop();
        three();
        four();
        longer();
        propped();
        cross();
        rubble();
        rat();
        ratted();
        traps();
        trapsStay();
        caught();
        barred();
        trapsGone();
        Script.end("DiggingTermsTest");
    }

    private static void dig() {
        Script.run("can dig a CELL that it HOLDS, and that is not OPEN, if a neighbour of it is OPEN", """
            peg(0, 11, 3, 3); peg(1, 14, 1, 1); dig(0, 0, 12) ! state; sink(0, 0, 12); dig(0, 0, 12) ! state; dig(0, 0, 14) ! state; dig(0, 0, 21) ! state; dig(0, 0, 23) ! state; dig(0, 0, 32) ! state
            dig(0, 0, 2) ! state; dig(0, 0, 13) = 0; dig(0, 1, 22) ! state; dig(1, 1, 14) = 0; dig(0, 0, 22) = 0; dig(0, 0, 32) = 0; dig(0, 0, 31) = 0; dig(0, 0, 32) ! state
            """);
        Script.run("if a neighbour of it is OPEN: RUBBLE is not", """
            peg(0, 0, 2, 4); sink(0, 0, 0); dig(0, 0, 1); dig(0, 0, 2); dig(0, 0, 3); ofCell(1, 0) = 2; dig(0, 0, 11) ! state; dig(0, 0, 0) ! state; dig(0, 0, 3) ! state
            peg(1, 4, 1, 1); sink(1, 1, 4); dig(0, 0, 3) = 0; dig(0, 0, 13) = 0; dig(0, 0, 2) = 0
            """);
        Script.run("if a neighbour of it is OPEN: propped or not, whosever", """
            peg(0, 0, 1, 1); peg(1, 1, 1, 1); peg(2, 2, 1, 1); sink(0, 0, 0); prop(0, 0, 0); dig(1, 1, 1) = 0; dig(2, 2, 2) = 0
            """);
        Script.run("that it HOLDS: not once it LAPSES, and not what another one HOLDS", """
            peg(0, 0, 1, 3); peg(1, 0, 1, 4); sink(0, 0, 0); dig(1, 1, 1) ! state; dig(1, 1, 3) ! state; witness(0, 3, 0); pass(1); witness(0, 4, 1) = 0; witness(0, 5, 1) = 1
            dig(0, 0, 1) ! state; dig(1, 1, 1) = 0; sink(0, 0, 2) ! state; sink(1, 1, 2) = 0; prop(0, 0, 0) ! state; prop(1, 1, 0); pass(72); dig(1, 1, 3) ! state
            """);
    }

    private static void sink() {
        Script.run("sink a shaft at one that it HOLDS, and that is not OPEN, at most 2 for a CLAIM", """
            peg(0, 0, 4, 4); partner(0, 1, 1); ofClaim(0, 4) = 0; sink(0, 0, 4) ! state; sink(0, 0, 0) = 0; ofClaim(0, 4) = 1; sink(0, 0, 0) ! state; sink(0, 1, 33) = 0; ofClaim(0, 4) = 2
            sink(0, 0, 22) ! state; sink(0, 1, 22) ! state; ofClaim(0, 4) = 2; ofCell(22, 0) = 0; dig(0, 0, 1) = 0; peg(0, 0, 4, 4) = 1; sink(1, 0, 22) ! state; pass(72); peg(0, 0, 4, 4) = 2
            sink(2, 0, 22) = 0; sink(2, 0, 20) = 0; sink(2, 0, 3) ! state; ofClaim(2, 4) = 2; ofClaim(0, 4) = 2; ofClaim(1, 4) = 0
            """);
        Script.run("at most 2 for a CLAIM: also when what was sunk fell", """
            peg(0, 0, 1, 4); sink(0, 0, 0); dig(0, 0, 1); dig(0, 0, 2); sink(0, 0, 3); ofCell(3, 0) = 2; ofCell(0, 0) = 2; ofClaim(0, 4) = 2; sink(0, 0, 0) ! state; sink(0, 0, 3) ! state
            """);
        Script.run("a shaft beside an OPEN CELL, and at RUBBLE", """
            peg(0, 0, 1, 4); sink(0, 0, 0); sink(0, 0, 1) = 0; ofClaim(0, 4) = 2; peg(1, 10, 1, 4); dig(1, 1, 10); dig(1, 1, 11); dig(1, 1, 12); dig(1, 1, 13); ofCell(10, 0) = 2
            sink(1, 1, 10) = 0; ofCell(10, 0) = 1; sink(1, 1, 13) = 0; ofCell(13, 0) = 1; ofClaim(1, 4) = 2; sink(1, 1, 12) ! state
            """);
    }

    private static void found() {
        Script.run("carats in it become a STONE, with the depth of the CELL; the STONE comes to the PARCEL", """
            seam(1, 1, 9); seam(3, 999, 0); peg(0, 0, 1, 4); sink(0, 0, 0) = 0; ofStone(0, 0) ! bounds; ofClaim(0, 5) = 0; dig(0, 0, 1) = 1; ofStone(0, 0) = 1; ofStone(0, 1) = 0; ofClaim(0, 5) = 1
            ofStone(0, 2) = -1; ofStone(0, 3) = 0; ofStone(0, 7) = 1; dig(0, 0, 2) = 0; ofStone(1, 0) ! bounds; prop(0, 0, 0); dig(0, 0, 3) = 999; ofStone(1, 0) = 999; ofStone(1, 1) = 1; ofClaim(0, 5) = 2
            ofStone(2, 0) ! bounds; bore(1) = 0; carats(1) = 0; carats(2) = 1000
            """);
        Script.run("STONES are numbered from 0 as they are found", """
            seam(99, 1, 0); seam(0, 2, 0); seam(50, 3, 0); seam(51, 4, 0); peg(0, 0, 1, 1); peg(0, 99, 1, 1); peg(2, 50, 1, 2)
            sink(2, 2, 50) = 3; sink(1, 0, 99) = 1; rat(5, 51) = 4; sink(0, 0, 0) = 2; ofStone(0, 7) = 50; ofStone(1, 7) = 99; ofStone(2, 7) = 51; ofStone(3, 7) = 0; ofStone(4, 7) ! bounds
            ofStone(0, 3) = 2; ofStone(1, 3) = 1; ofStone(2, 3) = -1; ofStone(3, 3) = 0; divide(1) = 1; ofStone(1, 2) = 0; ofStone(3, 2) = -1
            """);
    }

    private static void prop() {
        Script.run("OPEN CELLS can be propped by the PEOPLE of the CLAIM that HOLDS them", """
            peg(0, 0, 1, 4); partner(0, 4, 2); prop(0, 0, 0) ! state; sink(0, 0, 0); ofCell(0, 1) = 0; prop(0, 1, 0) ! state; prop(0, 4, 0); ofCell(0, 1) = 1; prop(0, 4, 0) ! state; prop(0, 0, 0) ! state
            prop(0, 0, 1) ! state; dig(0, 0, 1); dig(0, 0, 2); dig(0, 0, 3); ofCell(3, 0) = 1; peg(1, 4, 1, 1); dig(1, 1, 4); ofCell(3, 0) = 2; prop(0, 0, 3) ! state; ofCell(3, 1) = 0; ofCell(0, 0) = 1
            prop(0, 0, 4) ! state; prop(1, 1, 0) ! state; dig(0, 0, 1); prop(0, 0, 1); ofCell(1, 1) = 1; pass(72); ofCell(1, 1) = 1; peg(3, 0, 1, 2); prop(2, 3, 1) ! state
            """);
    }

    private static String step(String name, int cell) {
        return name + "(" + GroundTermsTest.holder(cell) + ", 0, " + cell + ");";
    }

    /** Sinks the first one of so many side by side, and digs the others, one behind the other. */
    private static Script line(String title, int first, int step, int count) {
        Script script = new Script(title + ", from " + first + " by " + step).play(GroundTermsTest.WHOLE_GROUND);
        script.play(step("sink", first));
        for (int i = 1; i < count; i++) {
            script.play(step("dig", first + i * step));
        }
        return script;
    }

    private static void all(Script script, int first, int step, int count, int kind) {
        for (int i = 0; i < count; i++) {
            script.play("ofCell(" + (first + i * step) + ", 0) = " + kind);
        }
    }

    private static void three() {
        for (int side = 0; side < 10; side++) {
            for (int from = 0; from < 8; from++) {
                all(line("more than 3: three stay", side * 10 + from, 1, 3), side * 10 + from, 1, 3, 1);
                all(line("more than 3: three stay", from * 10 + side, 10, 3), from * 10 + side, 10, 3, 1);
            }
        }
        for (int row = 0; row < 9; row++) {
            int end = row * 10 + 9;
            Script script = new Script("side by side in its row: not on into the next one, " + row).play(GroundTermsTest.WHOLE_GROUND);
            script.play(step("sink", end - 1) + step("dig", end) + step("sink", end + 1) + step("dig", end + 2) + step("dig", end - 2) + step("dig", end + 3));
            all(script, end - 2, 1, 6, 1);
        }
    }

    private static void four() {
        for (int side = 0; side < 10; side++) {
            for (int from = 0; from < 7; from++) {
                Script row = line("more than 3: four fall", side * 10 + from, 1, 4);
                all(row, side * 10 + from, 1, 4, 2);
                row.play("ofCell(" + (side * 10 + (from + 4) % 10) + ", 0) = 0; ofCell(" + (side * 10 + (from + 9) % 10) + ", 0) = 0");
                Script column = line("more than 3: four fall", from * 10 + side, 10, 4);
                all(column, from * 10 + side, 10, 4, 2);
                column.play("ofCell(" + ((from + 4) % 10 * 10 + side) + ", 0) = 0; ofCell(" + ((from + 9) % 10 * 10 + side) + ", 0) = 0");
            }
        }
    }

    /** Three on the one side and so many on the other, and then the one between. */
    private static void longer() {
        for (int first : new int[] {20, 22, 23, 60, 63, 90}) {
            for (int more = 1; more <= 3; more++) {
                Script row = line("that CELL among them, all these: " + (4 + more), first, 1, 3);
                row.play(step("sink", first + 4));
                for (int i = 1; i < more; i++) {
                    row.play(step("dig", first + 4 + i));
                }
                all(row, first, 1, 3, 1);
                row.play(step("dig", first + 3));
                all(row, first, 1, 4 + more, 2);
            }
        }
        for (int first : new int[] {0, 4, 9, 15, 35}) {
            Script column = line("that CELL among them, all these: 7 in a column", first, 10, 3);
            column.play(step("sink", first + 40) + step("dig", first + 50) + step("dig", first + 60) + step("dig", first + 30));
            all(column, first, 10, 7, 2);
        }
        Script.run("that CELL among them: what is side by side without it stays", """
            peg(0, 0, 1, 3); peg(1, 10, 1, 3); sink(0, 0, 0); dig(0, 0, 1); dig(0, 0, 2); sink(1, 1, 12); dig(1, 1, 11); dig(1, 1, 10); ofCell(0, 0) = 1; ofCell(2, 0) = 1; ofCell(10, 0) = 1; ofCell(12, 0) = 1
            """);
    }

    /** Four of which one is propped, each in turn: in a row, and in a column. */
    private static void propped() {
        for (int step = 1; step <= 10; step += 9) {
            for (int held = 0; held < 3; held++) {
                Script script = new Script("OPEN and not propped: the propped one is " + held + " by " + step).play(GroundTermsTest.WHOLE_GROUND);
                script.play(step("sink", 33));
                for (int i = 0; i < 4; i++) {
                    script.play(i > 0 ? step("dig", 33 + i * step) : "");
                    script.play(i == held ? step("prop", 33 + i * step) : "");
                }
                all(script, 33, step, 4, 1);
                script.play("ofCell(" + (33 + held * step) + ", 1) = 1");
                script.play(step("dig", 33 + 4 * step));
                all(script, 33 + (held + 1) * step, step, 4 - held, held == 0 ? 2 : 1);
                script.play("ofCell(33, 0) = 1; ofCell(" + (33 + held * step) + ", 0) = 1");
            }
        }
        Script.run("a propped one parts three and three", """
            peg(0, 30, 1, 4); peg(0, 34, 1, 3); sink(0, 0, 30); dig(0, 0, 31); dig(0, 0, 32); sink(1, 0, 34); dig(1, 0, 35); dig(1, 0, 36); peg(1, 33, 1, 1); ofCell(33, 3) = 0; dig(0, 0, 33)
            ofCell(30, 0) = 2; ofCell(36, 0) = 2; sink(0, 0, 33); prop(0, 0, 33); dig(0, 0, 32); dig(0, 0, 31); dig(0, 0, 30); dig(1, 0, 34); dig(1, 0, 35); dig(1, 0, 36)
            ofCell(30, 0) = 1; ofCell(32, 0) = 1; ofCell(33, 0) = 1; ofCell(34, 0) = 1; ofCell(36, 0) = 1
            """);
    }

    private static void cross() {
        Script.run("likewise in its column, by what was OPEN ahead of what fell in the row", """
            peg(0, 22, 4, 4); peg(0, 20, 1, 2); peg(0, 2, 2, 1); sink(0, 0, 22); sink(1, 0, 20); dig(1, 0, 21); sink(2, 0, 2); dig(2, 0, 12); ofCell(22, 0) = 1; sink(0, 0, 33); dig(0, 0, 23)
            ofCell(20, 0) = 2; ofCell(21, 0) = 2; ofCell(22, 0) = 2; ofCell(23, 0) = 2; ofCell(33, 0) = 1; ofCell(2, 0) = 1; ofCell(12, 0) = 1
            """);
        Script.run("both: the CELL is where they meet", """
            peg(0, 20, 1, 4); peg(0, 2, 2, 1); peg(0, 32, 1, 1); sink(0, 0, 20); dig(0, 0, 21); sink(0, 0, 23); sink(1, 0, 2); dig(1, 0, 12); sink(2, 0, 32); dig(0, 0, 22) = 0
            ofCell(20, 0) = 2; ofCell(21, 0) = 2; ofCell(22, 0) = 2; ofCell(23, 0) = 2; ofCell(2, 0) = 2; ofCell(12, 0) = 2; ofCell(32, 0) = 2
            """);
        Script.run("the column alone: its row has three", """
            peg(0, 20, 1, 3); peg(0, 2, 2, 1); peg(0, 32, 1, 1); sink(0, 0, 20); dig(0, 0, 21); sink(1, 0, 2); dig(1, 0, 12); sink(2, 0, 32); dig(0, 0, 22) = 0
            ofCell(20, 0) = 1; ofCell(21, 0) = 1; ofCell(22, 0) = 2; ofCell(2, 0) = 2; ofCell(12, 0) = 2; ofCell(32, 0) = 2
            """);
        Script.run("nothing else falls by that", """
            peg(0, 0, 4, 4); sink(0, 0, 0); dig(0, 0, 10); dig(0, 0, 11); dig(0, 0, 12); prop(0, 0, 12); dig(0, 0, 2); dig(0, 0, 3); dig(0, 0, 1) = 0
            ofCell(0, 0) = 2; ofCell(1, 0) = 2; ofCell(2, 0) = 2; ofCell(3, 0) = 2; ofCell(10, 0) = 1; ofCell(11, 0) = 1; ofCell(12, 0) = 1; ofCell(13, 0) = 0
            """);
    }

    private static void rubble() {
        Script.run("RUBBLE can be dug again, and has no carats", """
            seam(0, 5, 0); seam(3, 7, 1); peg(0, 0, 1, 4); sink(0, 0, 0) = 5; dig(0, 0, 1); dig(0, 0, 2); dig(0, 0, 3) = 7; ofCell(3, 0) = 2; bore(3) = 0; carats(1) = 0; carats(2) = 12; plan(0, 3) = 0
            sink(0, 0, 3) = 0; ofCell(3, 0) = 1; ofStone(2, 0) ! bounds; ofClaim(0, 5) = 2; dig(0, 0, 2) = 0; ofCell(2, 0) = 1; dig(0, 0, 1) = 0; ofCell(1, 0) = 1; rat(6, 0) = 0; ofCell(0, 0) = 2; ofCell(3, 0) = 2
            ofStone(2, 0) ! bounds; ofPerson(6, 2) = 0; carats(0) = 12
            """);
        Script.run("a CELL that falls as it is found keeps its STONE", "seam(3, 7, 1); peg(0, 0, 1, 4); sink(0, 0, 0); dig(0, 0, 1); dig(0, 0, 2); dig(0, 0, 3) = 7; ofClaim(0, 5) = 1; ofStone(0, 7) = 3; ofStone(0, 0) = 7");
    }

    private static void rat() {
        Script.run("a CELL that some CLAIM HOLDS of whose PEOPLE that one is none", """
            peg(0, 0, 1, 4); partner(0, 1, 1); sink(0, 0, 0); rat(0, 1) ! state; rat(1, 1) ! state; rat(2, 10) ! state; rat(2, 1) = 0; partner(0, 2, 1); rat(2, 2) ! state; rat(3, 2) = 0; pass(72)
            rat(3, 3) ! state; rat(0, 3) ! state; peg(3, 0, 1, 4); rat(3, 3) ! state; prop(1, 3, 0); rat(0, 3) = 0; ofCell(3, 0) = 1
            """);
        Script.run("and that could be dug by these", """
            peg(0, 0, 2, 4); rat(1, 1) ! state; sink(0, 0, 0); rat(1, 0) ! state; rat(1, 11) ! state; rat(1, 2) ! state; rat(1, 10) = 0; rat(1, 10) ! state; rat(1, 11) = 0
            """);
        Script.run("BARRED or not", """
            peg(0, 0, 1, 4); peg(1, 10, 1, 4); sink(0, 0, 0); sink(1, 1, 10); trap(1, 1, 11); rat(0, 11) = -1; dig(0, 0, 1) ! state; rat(2, 1) = 0; rat(0, 12) ! state; rat(0, 11) ! state
            """);
        Script.run("by the CLAIM that HOLDS it alone: PEOPLE of another one that has the CELL can rat", """
            peg(0, 0, 1, 4); peg(1, 0, 1, 4); sink(0, 0, 0); rat(0, 1) ! state; rat(1, 1) = 0; witness(0, 5, 0); pass(1); witness(0, 6, 1); witness(0, 7, 1) = 1; ofCell(2, 3) = 1; rat(1, 2) ! state; rat(0, 2) = 0
            """);
    }

    private static void ratted() {
        Script.run("it becomes OPEN, its carats become a STONE of the PERSON, and it may FALL", """
            seam(3, 40, 4); peg(0, 0, 1, 4); sink(0, 0, 0); rat(7, 1) = 0; ofPerson(7, 2) = 0; ofStone(0, 0) ! bounds; ofCell(1, 0) = 1; rat(7, 2) = 0; ofCell(2, 0) = 1; rat(7, 3) = 40; ofPerson(7, 2) = 1
            ofCell(0, 0) = 2; ofCell(1, 0) = 2; ofCell(2, 0) = 2; ofCell(3, 0) = 2; ofStone(0, 0) = 40; ofStone(0, 1) = 0; ofStone(0, 2) = 7; ofStone(0, 3) = -1; ofClaim(0, 5) = 0; divide(0) ! state; rub(0) = 36
            """);
        Script.run("that is not to work the CLAIM", "peg(0, 0, 1, 4); sink(0, 0, 0); pass(21); ofClaim(0, 6) = 51; rat(7, 1) = 0; ofClaim(0, 6) = 51; pass(51); ofClaim(0, 2) = 0");
    }

    private static void traps() {
        Script.run("at CELLS that it HOLDS, and that are not OPEN, one in a CELL; at most 3 of a CLAIM lie there at once", """
            peg(0, 0, 1, 4); peg(1, 10, 1, 4); partner(0, 2, 1); trap(0, 0, 10) ! state; trap(0, 1, 0) ! state; trap(0, 0, 0) = 1; trap(0, 2, 0) ! state; trap(0, 0, 1) = 2; trap(0, 2, 2) = 3; trap(0, 0, 3) ! state
            trap(1, 1, 10) = 1; sink(0, 0, 0); trap(0, 0, 0) ! state; trap(0, 0, 3) = 3; rat(6, 1) = -1; trap(0, 0, 1) = 3; trap(0, 0, 1) ! state; dig(0, 0, 1); trap(0, 0, 1) ! state; ofCell(1, 2) = 0; ofCell(3, 2) = 1
            """);
        Script.run("that are not OPEN: RUBBLE", """
            peg(0, 0, 1, 4); sink(0, 0, 0); dig(0, 0, 1); dig(0, 0, 2); dig(0, 0, 3); trap(0, 0, 0) = 1; trap(0, 0, 3) = 2; sink(0, 0, 1); rat(6, 0) = -1; ofCell(0, 0) = 2; rat(7, 0) = 0; dig(0, 0, 2); dig(0, 0, 3); ofCell(3, 2) = 0
            """);
    }

    private static void trapsStay() {
        Script.run("they lie there also when it HOLDS the CELL no more", """
            peg(0, 0, 2, 4); trap(0, 0, 0); trap(0, 0, 1); trap(0, 0, 2) = 3; pass(1); peg(1, 0, 1, 4); witness(1, 5, 0); witness(0, 5, 1); ofCell(0, 3) = 1; ofCell(10, 3) = 0; ofCell(0, 2) = 1; trap(0, 0, 10) ! state
            trap(1, 1, 0) ! state; trap(1, 1, 3) = 1; sink(1, 1, 0); trap(0, 0, 10) = 3; trap(0, 0, 11) ! state; rat(7, 1) = -1; trap(0, 0, 11) = 3; trap(0, 0, 12) ! state; trap(1, 1, 1) = 2
            """);
        Script.run("they lie there also when it LAPSED", """
            peg(0, 0, 1, 4); trap(0, 0, 0); trap(0, 0, 1); pass(72); ofCell(0, 2) = 1; ofCell(1, 2) = 1; ofCell(2, 2) = 0; peg(1, 0, 1, 4); trap(1, 1, 1) ! state; trap(1, 1, 2) = 1; trap(1, 1, 3) = 2; sink(1, 1, 0); rat(0, 1) = -1
            trap(1, 1, 1) = 3; ofPerson(0, 3) = 1
            """);
    }

    private static void caught() {
        Script.run("A PERSON who rats, and can rat, a CELL with a trap: who cannot is not CAUGHT", """
            peg(0, 0, 2, 4); sink(0, 0, 0); trap(0, 0, 1); trap(0, 0, 12); rat(0, 1) ! state; rat(1, 12) ! state; ofCell(1, 2) = 1; ofCell(12, 2) = 1; ofPerson(0, 3) = 0; ofPerson(1, 3) = 0; pass(5); rat(1, 1) ! state
            ofPerson(1, 1) = 0; ofCell(1, 2) = 1; pass(16); rat(1, 1) = -1; ofPerson(1, 3) = 1
            """);
        Script.run("with a trap, whosever", """
            peg(2, 0, 1, 2); trap(0, 2, 1); pass(72); peg(0, 0, 1, 2); peg(3, 0, 1, 2); sink(1, 0, 0); rat(0, 1) ! state; rat(2, 1) = -1; ofPerson(2, 3) = 1; ofPerson(2, 1) = 168
            """);
        Script.run("nothing else happens but that the trap is gone", """
            seam(3, 9, 1); peg(0, 0, 1, 4); sink(0, 0, 0); dig(0, 0, 1); dig(0, 0, 2); trap(0, 0, 3); pass(2); rat(1, 3) = -1; ofCell(3, 0) = 0; ofCell(3, 2) = 0; ofCell(0, 0) = 1; ofCell(2, 0) = 1; bore(3) = 1; carats(1) = 9
            ofStone(0, 0) ! bounds; ofPerson(1, 2) = 0; ofPerson(1, 0) = 0; ofClaim(0, 6) = 70; ofClaim(0, 5) = 0; trap(0, 0, 3) = 1; rat(2, 3) = -1; rat(3, 3) = 9; ofCell(0, 0) = 2; ofPerson(3, 3) = 0
            """);
        Script hours = new Script("BARRED for 168 hours, the present one the first").play("pass(3)").play(CAUGHT);
        for (int left = 167; left >= 0; left--) {
            hours.play("pass(1) = " + (171 - left) + "; ofPerson(1, 1) = " + left);
        }
        hours.play("pass(1); ofPerson(1, 1) = 0; pass(99); ofPerson(1, 1) = 0; ofPerson(1, 3) = 1; ofPerson(0, 1) = 0");
    }

    private static void barred() {
        String[] deeds = {"peg(1, 50, 1, 1) = 2", "dig(1, 1, 23) = 0", "sink(1, 1, 33) = 0", "prop(1, 1, 13)", "trap(1, 1, 10) = 1"};
        for (String deed : deeds) {
            String refused = deed.split(" =")[0] + " ! state";
            String ready = deed.startsWith("sink") ? TO_167.replace("sink(1, 4, 31)", "dig(1, 4, 23)").replace("dig(1, 4, 21)", "dig(1, 4, 22)") : TO_167;
            new Script("Who is BARRED does not: " + deed).play(CAUGHT).play(refused).play(ready).play(refused).play("pass(1) = 168").play(deed);
        }
        Script.run("Who is BARRED does not rat, and does again", """
            peg(0, 0, 2, 4); sink(0, 0, 0); trap(0, 0, 1); rat(1, 1) = -1; rat(1, 10) ! state; pass(60); dig(0, 0, 1); pass(60); dig(0, 0, 2); pass(45) = 165; rat(1, 10) ! state; pass(2) = 167; rat(1, 10) ! state; pass(1) = 168; rat(1, 10) = 0
            """);
        new Script("Who is BARRED can witness, be a partner, and does what else there is").play("seam(13, 10, 0)").play(CAUGHT).play("""
            witness(0, 1, 0) = 0; partner(0, 1, 5) = 7; divide(1) = 1; ofStone(0, 2) = 1; rub(0) = 9; bid(0, 0, 5) = 1; sell(0) = 0; ofPerson(1, 0) = 5; dig(1, 4, 12) = 0; sink(0, 1, 1) ! state
            """);
    }

    private static void trapsGone() {
        Script.run("As a CELL with a trap is dug, or a shaft is sunk there, the trap is gone", """
            peg(0, 0, 1, 4); trap(0, 0, 0); trap(0, 0, 1); trap(0, 0, 3) = 3; sink(0, 0, 0) = 0; ofCell(0, 2) = 0; dig(0, 0, 1) = 0; ofCell(1, 2) = 0; ofPerson(0, 1) = 0; ofPerson(0, 3) = 0; ofCell(3, 2) = 1; trap(0, 0, 2) = 2
            """);
        Script.run("the trap is gone: another one's too, and it leaves room for one more", """
            peg(0, 0, 1, 4); peg(1, 0, 2, 4); trap(0, 0, 0); trap(0, 0, 1); trap(0, 0, 2) = 3; witness(0, 5, 0); pass(1); witness(0, 6, 1); witness(0, 7, 1) = 1; ofCell(0, 3) = 1; sink(1, 1, 0); dig(1, 1, 1); ofPerson(1, 3) = 0
            witness(1, 5, 1); witness(1, 6, 1) = 1; ofCell(2, 3) = 0; trap(0, 0, 3) = 2; trap(0, 0, 1) ! state; dig(0, 0, 2); ofCell(2, 2) = 0
            """);
        Script.run("a CELL that falls, and is dug, has no trap of old", "peg(0, 0, 1, 4); trap(0, 0, 3); sink(0, 0, 0); dig(0, 0, 1); dig(0, 0, 2); dig(0, 0, 3); ofCell(3, 0) = 2; ofCell(3, 2) = 0; sink(0, 0, 2); rat(5, 3) = 0");
    }
}
