/** Promises 1, 2, 3, 16, 17 and 18. */
public final class GroundTest {
    public static void main(String[] args) {
        newObject();
        seam();
        pass();
        hour();
        bore();
        ofCell();
        Script.end("GroundTest");
    }

    private static void newObject() {
        for (int what = 0; what < 4; what++) {
            Script script = new Script("promise 1, cells told " + what);
            for (int cell = 0; cell < 100; cell++) {
                script.play("ofCell(" + cell + ", " + what + ") = " + (what == 3 ? -1 : 0));
            }
        }
        Script bores = new Script("promise 1, bores");
        for (int cell = 0; cell < 100; cell++) {
            bores.play("bore(" + cell + ") = 0");
        }
        Script rest = new Script("promise 1");
        rest.play("hour() = 0; ofClaim(0, 0) ! bounds; share(0, 0) ! bounds; ofStone(0, 0) ! bounds");
        for (int what = 0; what < 6; what++) {
            rest.play("carats(" + what + ") = 0");
        }
        for (int person = 0; person < 8; person++) {
            for (int what = 0; what < 4; what++) {
                rest.play("ofPerson(" + person + ", " + what + ") = 0");
            }
        }
        for (int buyer = 0; buyer < 5; buyer++) {
            rest.play("purse(" + buyer + ") = 20000");
        }
        for (int claim = 0; claim < 12; claim++) {
            rest.play("ofClaim(" + claim + ", 0) ! bounds; divide(" + claim + ") ! bounds");
            rest.play("peg(0, 0, 1, 1) = " + claim);
        }
    }

    private static void seam() {
        Script.run("promise 2", """
            seam(0, 1, 0); seam(99, 999, 9); seam(50, 7, 3)
            carats(0) = 1007; carats(1) = 1007
            peg(0, 0, 1, 1); peg(0, 99, 1, 1); peg(0, 50, 1, 1)
            sink(0, 0, 0) = 1; sink(1, 0, 99) = 999; sink(2, 0, 50) = 7
            ofStone(0, 0) = 1; ofStone(0, 1) = 1; ofStone(1, 0) = 999; ofStone(1, 1) = 0; ofStone(2, 1) = 0
            """);
        Script.run("promise 2, wrong inputs", """
            seam(-1, 1, 0) ! bounds; seam(100, 1, 0) ! bounds
            seam(2147483647, 1, 0) ! bounds; seam(-2147483648, 1, 0) ! bounds
            seam(0, 0, 0) ! argument; seam(0, 1000, 0) ! argument; seam(0, -5, 0) ! argument
            seam(0, 1, -1) ! argument; seam(0, 1, 10) ! argument
            carats(0) = 0; carats(1) = 0; bore(0) = 0
            seam(0, 5, 1)
            seam(0, 5, 1) ! state; seam(0, 6, 2) ! state
            seam(0, 0, 1) ! argument; seam(0, 5, 10) ! argument; seam(100, 0, 10) ! bounds
            carats(0) = 5; carats(1) = 5
            """);
        Script.run("promise 2, not solid", """
            peg(0, 0, 4, 1); sink(0, 0, 0) = 0
            seam(0, 5, 1) ! state; seam(0, 0, 1) ! argument
            dig(0, 0, 10) = 0; dig(0, 0, 20) = 0; dig(0, 0, 30) = 0
            ofCell(10, 0) = 2
            seam(10, 5, 1) ! state
            carats(0) = 0
            """);
        Script.run("promise 2, where a trap lies", """
            peg(0, 0, 1, 1); trap(0, 0, 0) = 1; seam(0, 5, 1); sink(0, 0, 0) = 5; carats(0) = 5; carats(1) = 0
            """);
        Script.run("promise 2, told and dug", "peg(0, 0, 1, 1); seam(0, 5, 1); sink(0, 0, 0) = 5; seam(0, 5, 1) ! state");
    }

    private static void pass() {
        Script.run("promise 3", """
            pass(1) = 1; pass(99) = 100; hour() = 100
            pass(0) ! argument; pass(100) ! argument; pass(-1) ! argument
            pass(2147483647) ! argument; pass(-2147483648) ! argument; hour() = 100
            49 times pass(99); hour() = 4951
            pass(50) ! state; hour() = 4951; pass(49) = 5000
            pass(1) ! state; pass(99) ! state; pass(100) ! argument; hour() = 5000
            """);
    }

    private static void hour() {
        Script.run("promise 16", "hour() = 0; pass(23); hour() = 23; hour() = 23; pass(2); hour() = 25");
    }

    private static void bore() {
        Script.run("promise 17", """
            bore(-1) ! bounds; bore(100) ! bounds; bore(2147483647) ! bounds; bore(-2147483648) ! bounds
            seam(55, 1, 0); bore(55) = 1; bore(45) = 1; bore(65) = 1; bore(54) = 1; bore(56) = 1
            bore(44) = 0; bore(46) = 0; bore(64) = 0; bore(66) = 0; bore(35) = 0; bore(57) = 0; bore(53) = 0; bore(75) = 0
            seam(45, 1, 0); seam(65, 1, 0); seam(54, 999, 0); bore(55) = 4; seam(56, 1, 0); bore(55) = 5
            bore(44) = 2; bore(45) = 2; bore(76) = 0; bore(75) = 1
            """);
        Script.run("promise 17, the edges of the ground", """
            seam(10, 1, 0); seam(20, 1, 0); seam(9, 1, 0); seam(29, 1, 0)
            bore(9) = 1; bore(19) = 2; bore(10) = 2; bore(30) = 1; bore(0) = 1; bore(8) = 1; bore(29) = 1; bore(28) = 1
            seam(99, 1, 0); bore(99) = 1; bore(98) = 1; bore(89) = 1; bore(90) = 0
            seam(0, 1, 0); bore(0) = 2; bore(1) = 1; bore(90) = 0; bore(99) = 1
            """);
        Script.run("promise 17, what is dug has none", """
            seam(0, 1, 0); seam(1, 2, 0); bore(0) = 2; bore(1) = 2; peg(0, 0, 1, 1); sink(0, 0, 0) = 1; bore(0) = 1; bore(1) = 1; bore(10) = 0
            """);
        Script.run("promise 17, what is ratted has none, and what was not has", """
            peg(0, 0, 1, 3); sink(0, 0, 0); seam(1, 3, 0); seam(2, 4, 0)
            trap(0, 0, 2); rat(1, 1) = 3; bore(1) = 1; rat(1, 2) = -1; bore(1) = 1; bore(12) = 1
            """);
    }

    private static void ofCell() {
        Script.run("promise 18", """
            ofCell(-1, 0) ! bounds; ofCell(100, 0) ! bounds; ofCell(0, -1) ! argument; ofCell(0, 4) ! argument
            ofCell(100, 4) ! bounds; ofCell(-1, -1) ! bounds; ofCell(0, 2147483647) ! argument
            peg(0, 5, 2, 2) = 0
            ofCell(4, 3) = -1; ofCell(5, 3) = 0; ofCell(6, 3) = 0; ofCell(7, 3) = -1; ofCell(15, 3) = 0; ofCell(16, 3) = 0
            ofCell(25, 3) = -1; ofCell(26, 3) = -1
            trap(0, 0, 6); ofCell(6, 2) = 1; ofCell(5, 2) = 0; ofCell(6, 0) = 0; ofCell(6, 1) = 0
            sink(0, 0, 5); ofCell(5, 0) = 1; ofCell(5, 1) = 0; prop(0, 0, 5); ofCell(5, 1) = 1; ofCell(5, 0) = 1
            dig(0, 0, 6); ofCell(6, 0) = 1; ofCell(6, 2) = 0
            """);
        Script.run("promise 18, who holds", """
            peg(0, 0, 2, 2) = 0; pass(1); peg(1, 1, 2, 2) = 1; ofCell(1, 3) = 0; ofCell(2, 3) = 1; ofCell(0, 3) = 0
            witness(1, 5, 0) = 0; ofCell(1, 3) = 0
            witness(0, 5, 1) = 1; ofCell(1, 3) = 1; ofCell(11, 3) = 1; ofCell(10, 3) = 0
            pass(71) = 72; ofCell(0, 3) = -1; ofCell(1, 3) = 1; pass(1); ofCell(1, 3) = -1
            """);
        Script.run("promise 18, one in the middle holds", """
            pass(9); peg(0, 0, 1, 1); peg(1, 0, 1, 1); peg(2, 0, 1, 1); ofCell(0, 3) = 0
            witness(1, 3, 4); ofCell(0, 3) = 1; witness(2, 3, 4); ofCell(0, 3) = 1; witness(0, 3, 4); ofCell(0, 3) = 0
            """);
    }
}
