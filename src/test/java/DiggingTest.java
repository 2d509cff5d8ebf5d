/** Promises 7, 8, 9 and 10, and what falls. */
public final class DiggingTest {
    public static void main(String[] args) {
        dig();
        sink();
        falls();
        prop();
        trap();
        Script.end("DiggingTest");
    }

    private static void dig() {
        Script.run("promise 7", """
            peg(0, 44, 3, 3); partner(0, 1, 1); seam(45, 8, 2); seam(54, 9, 0); dig(0, 0, 45) ! state; sink(0, 0, 44) = 0
            dig(0, 0, 45) = 8; dig(0, 1, 54) = 9; dig(0, 0, 45) ! state; dig(0, 0, 44) ! state
            ofCell(45, 0) = 1; ofCell(54, 0) = 1; dig(0, 0, 66) ! state; dig(0, 0, 56) ! state; dig(0, 0, 55) = 0
            ofStone(0, 0) = 8; ofStone(0, 1) = 0; ofStone(0, 2) = -1; ofStone(0, 3) = 0; ofStone(0, 7) = 45; ofStone(1, 7) = 54; ofStone(2, 0) ! bounds
            dig(0, 1, 56) = 0; dig(0, 1, 66) = 0
            """);
        Script.run("promise 7, wrong inputs", """
            dig(0, 0, 0) ! bounds; peg(0, 0, 1, 4); sink(0, 0, 0)
            dig(-1, 0, 1) ! bounds; dig(1, 0, 1) ! bounds; dig(0, -1, 1) ! bounds; dig(0, 8, 1) ! bounds; dig(0, 0, -1) ! bounds; dig(0, 0, 100) ! bounds
            dig(0, 5, 100) ! bounds; dig(0, 2147483647, 1) ! bounds; dig(0, 0, -2147483648) ! bounds
            dig(0, 1, 1) ! state; dig(0, 0, 10) ! state; ofCell(1, 0) = 0; ofCell(10, 0) = 0; ofClaim(0, 6) = 72
            """);
        Script.run("promise 7, neighbours share a side", """
            peg(0, 8, 3, 2); peg(1, 10, 3, 2); sink(0, 0, 9); dig(1, 1, 10) ! state; dig(0, 0, 18) ! state; dig(0, 0, 19) = 0
            dig(1, 1, 20) ! state; sink(1, 1, 20); dig(1, 1, 10) = 0; dig(1, 1, 31) ! state; dig(1, 1, 11) = 0
            """);
        Script.run("promise 7, the last column is no neighbour of the first one", """
            peg(0, 8, 3, 2); peg(1, 20, 2, 1); peg(2, 90, 1, 1); peg(2, 99, 1, 1); peg(2, 0, 1, 1); sink(1, 1, 20); dig(0, 0, 19) ! state; dig(0, 0, 29) ! state
            sink(2, 2, 90); sink(3, 2, 99); dig(4, 2, 0) ! state; dig(0, 0, 9) ! state; dig(1, 1, 30) = 0
            """);
        Script.run("promise 7, a neighbour outside the claim", """
            peg(0, 5, 1, 1); peg(1, 15, 1, 1); sink(0, 0, 5); dig(1, 1, 15) = 0; dig(0, 1, 15) ! state; dig(1, 0, 15) ! state
            peg(2, 14, 1, 1); peg(2, 16, 1, 1); peg(2, 25, 1, 1); peg(2, 24, 1, 1); dig(5, 2, 24) ! state; dig(2, 2, 14) = 0; dig(3, 2, 16) = 0; dig(4, 2, 25) = 0
            """);
        Script.run("promise 7, only what it holds", """
            peg(0, 0, 1, 3); pass(1); peg(1, 0, 1, 4); sink(0, 0, 2); dig(1, 1, 1) ! state; dig(1, 1, 3) = 0; dig(0, 0, 1) = 0
            witness(1, 5, 0) = 0; dig(1, 1, 0) ! state; witness(0, 5, 1) = 1; dig(0, 0, 0) ! state; dig(1, 1, 0) = 0
            """);
        Script.run("promise 7, a lapsed one", """
            peg(0, 0, 1, 4); sink(0, 0, 0); pass(71); dig(0, 0, 1) = 0; pass(71); dig(0, 0, 2) = 0; pass(72); dig(0, 0, 3) ! state; sink(0, 0, 3) ! state
            """);
        Script.run("promise 7, the barred do not", """
            peg(0, 0, 1, 4); peg(1, 10, 2, 4); sink(0, 0, 0); trap(0, 0, 1); rat(1, 1) = -1; dig(1, 1, 10) ! state; sink(1, 1, 13) ! state
            prop(1, 1, 10) ! state; trap(1, 1, 10) ! state; rat(1, 1) ! state; partner(1, 2, 1); dig(1, 2, 10) = 0; sink(1, 2, 13) = 0; prop(1, 1, 10) ! state
            pass(67); dig(1, 2, 11); pass(67); dig(1, 2, 21); pass(33) = 167; prop(1, 1, 10) ! state; pass(1) = 168; prop(1, 1, 10); ofCell(10, 1) = 1
            """);
        Script.run("promise 7, a trap is gone", """
            peg(0, 0, 1, 4); sink(0, 0, 0); trap(0, 0, 1) = 1; trap(0, 0, 2) = 2; dig(0, 0, 1) = 0; ofCell(1, 2) = 0; trap(0, 0, 3) = 2
            ofPerson(0, 1) = 0; ofPerson(0, 3) = 0; sink(0, 0, 3) = 0; ofCell(3, 2) = 0; ofPerson(0, 1) = 0; trap(0, 0, 3) ! state; ofCell(2, 2) = 1
            """);
    }

    private static void sink() {
        Script.run("promise 8", """
            seam(0, 3, 4); seam(3, 6, 0); peg(0, 0, 1, 4); partner(0, 1, 1); sink(0, 0, 0) = 3; sink(0, 0, 0) ! state; ofClaim(0, 4) = 1
            sink(0, 1, 3) = 6; ofClaim(0, 4) = 2; sink(0, 0, 1) ! state; ofClaim(0, 4) = 2; ofCell(1, 0) = 0; ofStone(0, 7) = 0; ofStone(1, 7) = 3
            ofStone(0, 3) = 0; ofStone(0, 2) = -1; ofStone(0, 1) = 0; ofStone(1, 1) = 1; ofClaim(0, 5) = 2
            """);
        Script.run("promise 8, wrong inputs", """
            sink(0, 0, 0) ! bounds; peg(0, 0, 1, 4); sink(-1, 0, 1) ! bounds; sink(1, 0, 1) ! bounds; sink(0, -1, 1) ! bounds; sink(0, 8, 1) ! bounds
            sink(0, 0, -1) ! bounds; sink(0, 0, 100) ! bounds; sink(0, 5, 100) ! bounds; sink(0, 1, 1) ! state; sink(0, 0, 10) ! state
            ofClaim(0, 4) = 0; ofCell(1, 0) = 0; sink(0, 0, 1) = 0
            """);
        Script.run("promise 8, rubble", """
            peg(0, 0, 1, 4); peg(0, 0, 1, 4); sink(0, 0, 0); dig(0, 0, 1); dig(0, 0, 2); dig(0, 0, 3); ofCell(3, 0) = 2; dig(0, 0, 3) ! state
            sink(0, 0, 3) = 0; ofCell(3, 0) = 1; dig(0, 0, 2) = 0; ofCell(2, 0) = 1; ofClaim(0, 4) = 2
            """);
        Script.run("promise 8, each claim has two", """
            peg(0, 0, 1, 3); peg(0, 20, 1, 4); sink(0, 0, 0); sink(0, 0, 2); sink(1, 0, 20); sink(1, 0, 23); sink(1, 0, 22) ! state; sink(0, 0, 1) ! state
            """);
    }

    private static void falls() {
        Script.run("what falls in a row", """
            peg(0, 0, 2, 4); sink(0, 0, 0); dig(0, 0, 1); sink(0, 0, 3); ofCell(1, 0) = 1; dig(0, 0, 2) = 0
            ofCell(0, 0) = 2; ofCell(1, 0) = 2; ofCell(2, 0) = 2; ofCell(3, 0) = 2; ofCell(4, 0) = 0; ofCell(10, 0) = 0
            """);
        Script.run("what falls in a column", """
            peg(0, 5, 4, 1); sink(0, 0, 5); sink(0, 0, 35); dig(0, 0, 15); ofCell(15, 0) = 1; dig(0, 0, 25) = 0
            ofCell(5, 0) = 2; ofCell(15, 0) = 2; ofCell(25, 0) = 2; ofCell(35, 0) = 2; ofCell(45, 0) = 0
            """);
        Script.run("three do not fall", """
            peg(0, 7, 1, 3); peg(0, 70, 3, 1); sink(0, 0, 7); dig(0, 0, 8); dig(0, 0, 9); ofCell(7, 0) = 1; ofCell(9, 0) = 1
            sink(1, 0, 90); dig(1, 0, 80); dig(1, 0, 70); ofCell(90, 0) = 1; ofCell(70, 0) = 1
            """);
        Script.run("rows do not go on in the next one", """
            peg(0, 8, 1, 2); peg(1, 10, 1, 2); sink(0, 0, 8); sink(0, 0, 9); sink(1, 1, 10); sink(1, 1, 11)
            ofCell(8, 0) = 1; ofCell(9, 0) = 1; ofCell(10, 0) = 1; ofCell(11, 0) = 1
            """);
        Script.run("rows do not go on in the last one", """
            peg(0, 8, 1, 2); peg(1, 10, 1, 2); sink(1, 1, 11); sink(1, 1, 10); sink(0, 0, 9); sink(0, 0, 8)
            ofCell(8, 0) = 1; ofCell(9, 0) = 1; ofCell(10, 0) = 1; ofCell(11, 0) = 1
            """);
        Script.run("three to the end of a row, and one in the next row", """
            peg(0, 47, 1, 3); peg(1, 50, 1, 3); sink(1, 1, 50); dig(1, 1, 51); dig(1, 1, 52); sink(0, 0, 49); dig(0, 0, 48); dig(0, 0, 47)
            ofCell(47, 0) = 1; ofCell(48, 0) = 1; ofCell(49, 0) = 1; ofCell(50, 0) = 1; ofCell(51, 0) = 1; ofCell(52, 0) = 1
            """);
        everyFour();
        Script.run("the longest: four on both sides, and the cell", """
            peg(0, 30, 1, 3); peg(1, 33, 1, 1); peg(2, 34, 1, 3); sink(0, 0, 30); dig(0, 0, 31); dig(0, 0, 32)
            sink(2, 2, 34); dig(2, 2, 35); dig(2, 2, 36); dig(1, 1, 33) = 0
            ofCell(30, 0) = 2; ofCell(31, 0) = 2; ofCell(32, 0) = 2; ofCell(33, 0) = 2; ofCell(34, 0) = 2; ofCell(35, 0) = 2; ofCell(36, 0) = 2
            ofCell(37, 0) = 0; ofCell(29, 0) = 0
            """);
        Script.run("the longest column", """
            peg(0, 34, 3, 1); peg(1, 64, 1, 1); peg(2, 74, 3, 1); sink(0, 0, 34); dig(0, 0, 44); dig(0, 0, 54)
            sink(2, 2, 74); dig(2, 2, 84); dig(2, 2, 94); sink(1, 1, 64) = 0
            ofCell(34, 0) = 2; ofCell(44, 0) = 2; ofCell(54, 0) = 2; ofCell(64, 0) = 2; ofCell(74, 0) = 2; ofCell(84, 0) = 2; ofCell(94, 0) = 2
            """);
        Script.run("row and column at once", """
            peg(0, 0, 4, 4); sink(0, 0, 0); dig(0, 0, 1); dig(0, 0, 2); sink(0, 0, 33); dig(0, 0, 23); dig(0, 0, 13); dig(0, 0, 12); dig(0, 0, 3) = 0
            ofCell(0, 0) = 2; ofCell(1, 0) = 2; ofCell(2, 0) = 2; ofCell(3, 0) = 2; ofCell(13, 0) = 2; ofCell(23, 0) = 2; ofCell(33, 0) = 2; ofCell(12, 0) = 1
            """);
        Script.run("props part what lies side by side", """
            peg(0, 0, 4, 4); sink(0, 0, 0); dig(0, 0, 1); prop(0, 0, 1); dig(0, 0, 2); dig(0, 0, 3) = 0; ofCell(0, 0) = 1; ofCell(2, 0) = 1; ofCell(3, 0) = 1
            dig(0, 0, 13); dig(0, 0, 23); dig(0, 0, 33); ofCell(33, 0) = 2; ofCell(3, 0) = 2; ofCell(2, 0) = 1; ofCell(1, 0) = 1; ofCell(1, 1) = 1
            """);
        Script.run("a propped one beside a fall stays", """
            peg(0, 10, 1, 1); peg(1, 11, 1, 4); sink(0, 0, 10); prop(0, 0, 10); dig(1, 1, 11); dig(1, 1, 12); dig(1, 1, 13); ofCell(13, 0) = 1; dig(1, 1, 14)
            ofCell(10, 0) = 1; ofCell(10, 1) = 1; ofCell(11, 0) = 2; ofCell(14, 0) = 2
            """);
        Script.run("rubble has no carats, and is dug again", """
            seam(2, 9, 0); peg(0, 0, 1, 4); sink(0, 0, 0); dig(0, 0, 1); dig(0, 0, 2) = 9; dig(0, 0, 3) = 0; ofCell(2, 0) = 2; bore(2) = 0
            dig(0, 0, 2) ! state; sink(0, 0, 2) = 0; dig(0, 0, 1) = 0; dig(0, 0, 3) = 0; dig(0, 0, 0) = 0; ofCell(0, 0) = 2; carats(2) = 9; ofClaim(0, 5) = 1
            """);
        Script.run("nothing else falls by that, and a shaft lets fall", """
            peg(0, 0, 1, 4); sink(0, 0, 0); dig(0, 0, 1); dig(0, 0, 2); sink(0, 0, 3) = 0; ofCell(0, 0) = 2; ofCell(3, 0) = 2; ofClaim(0, 4) = 2
            """);
        Script.run("a ratter lets fall", """
            peg(0, 0, 1, 4); sink(0, 0, 0); dig(0, 0, 1); dig(0, 0, 2); rat(1, 3) = 0; ofCell(0, 0) = 2; ofCell(3, 0) = 2
            """);
    }

    /** Four side by side fall, wherever on the ground, and whichever of them is opened last. */
    private static void everyFour() {
        for (int line = 0; line < 10; line++) {
            for (int first = 0; first < 7; first++) {
                for (int last = 0; last < 4; last++) {
                    four(line * 10 + first, 1, last);
                    four(first * 10 + line, 10, last);
                }
            }
        }
    }

    private static void four(int first, int step, int last) {
        Script script = new Script("four from " + first + " on by " + step + ", the last one is " + last);
        script.play(step == 1 ? "peg(0, " + first + ", 1, 4) = 0" : "peg(0, " + first + ", 4, 1) = 0");
        int sunk = 0;
        for (int i = 0; i < 4; i++) {
            if (i != last) {
                String how = sunk < 1 || i == last + 1 ? "sink" : "dig";
                sunk++;
                script.play(how + "(0, 0, " + (first + i * step) + ")");
            }
        }
        for (int i = 0; i < 4; i++) {
            script.play("ofCell(" + (first + i * step) + ", 0) = " + (i == last ? 0 : 1));
        }
        script.play("dig(0, 0, " + (first + last * step) + ") = 0");
        for (int i = 0; i < 4; i++) {
            script.play("ofCell(" + (first + i * step) + ", 0) = 2");
        }
    }

    private static void prop() {
        Script.run("promise 9", """
            peg(0, 0, 1, 4); partner(0, 1, 1); prop(0, 0, 0) ! state; sink(0, 0, 0); prop(0, 2, 0) ! state; prop(0, 1, 0); ofCell(0, 1) = 1; ofCell(0, 0) = 1
            prop(0, 0, 0) ! state; dig(0, 0, 1); ofCell(1, 1) = 0; prop(0, 0, 1); ofCell(1, 1) = 1; prop(0, 0, 2) ! state; ofCell(2, 1) = 0
            """);
        Script.run("promise 9, wrong inputs", """
            prop(0, 0, 0) ! bounds; peg(0, 0, 1, 4); sink(0, 0, 1); prop(-1, 0, 1) ! bounds; prop(1, 0, 1) ! bounds; prop(0, -1, 1) ! bounds; prop(0, 8, 1) ! bounds
            prop(0, 0, -1) ! bounds; prop(0, 0, 100) ! bounds; prop(0, 5, 100) ! bounds; prop(0, 0, 10) ! state; ofCell(1, 1) = 0
            """);
        Script.run("promise 9, not held, not open", """
            peg(0, 0, 1, 4); peg(1, 10, 1, 2); peg(1, 3, 1, 1); sink(0, 0, 0); dig(1, 1, 10); prop(0, 0, 10) ! state; prop(1, 1, 0) ! state; prop(1, 1, 10); dig(0, 0, 1)
            dig(0, 0, 2); dig(0, 0, 3); ofCell(3, 0) = 2; prop(0, 0, 3) ! state; prop(2, 1, 3) ! state; dig(0, 0, 0); prop(0, 0, 0); pass(72); prop(0, 0, 0) ! state; prop(1, 1, 11) ! state
            """);
        Script.run("promise 9, what was ratted can be propped, and a lapsed one not", """
            peg(0, 0, 1, 4); sink(0, 0, 0); rat(5, 1) = 0; prop(0, 0, 1); ofCell(1, 1) = 1; pass(72); prop(0, 0, 0) ! state; peg(0, 0, 1, 1); prop(1, 0, 0); ofCell(0, 1) = 1
            """);
    }

    private static void trap() {
        Script.run("promise 10", """
            peg(0, 0, 2, 4); partner(0, 1, 1); trap(0, 0, 0) = 1; trap(0, 1, 1) = 2; trap(0, 1, 1) ! state; trap(0, 0, 13) = 3; trap(0, 0, 2) ! state; trap(0, 0, 0) ! state
            ofCell(0, 2) = 1; ofCell(1, 2) = 1; ofCell(13, 2) = 1; ofCell(2, 2) = 0; sink(0, 0, 0); ofCell(0, 2) = 0; trap(0, 0, 0) ! state; trap(0, 0, 2) = 3
            """);
        Script.run("promise 10, wrong inputs", """
            trap(0, 0, 0) ! bounds; peg(0, 0, 1, 4); trap(-1, 0, 1) ! bounds; trap(1, 0, 1) ! bounds; trap(0, -1, 1) ! bounds; trap(0, 8, 1) ! bounds
            trap(0, 0, -1) ! bounds; trap(0, 0, 100) ! bounds; trap(0, 5, 100) ! bounds; trap(0, 1, 1) ! state; trap(0, 0, 10) ! state; ofCell(1, 2) = 0; trap(0, 0, 1) = 1
            """);
        Script.run("promise 10, on rubble", """
            peg(0, 0, 1, 4); sink(0, 0, 0); dig(0, 0, 1); dig(0, 0, 2); dig(0, 0, 3); ofCell(2, 0) = 2; trap(0, 0, 2) = 1; ofCell(2, 2) = 1; ofCell(2, 0) = 2
            """);
        Script.run("promise 10, they lie there also when it holds no more", """
            peg(0, 0, 1, 4); trap(0, 0, 0) = 1; trap(0, 0, 1) = 2; pass(72); ofCell(0, 2) = 1; trap(0, 0, 2) ! state; peg(1, 0, 1, 4) = 1
            trap(1, 1, 0) ! state; trap(1, 1, 2) = 1; trap(1, 1, 3) = 2; sink(1, 1, 0); ofCell(0, 2) = 0; dig(1, 1, 1); ofCell(1, 2) = 0; ofPerson(1, 3) = 0
            """);
        Script.run("promise 10, three of each claim, and freed by another claim's digging", """
            peg(0, 0, 1, 4); pass(1); peg(1, 0, 2, 4); trap(0, 0, 0) = 1; trap(0, 0, 1) = 2; trap(0, 0, 2) = 3; trap(1, 1, 10) = 1
            witness(1, 5, 0); witness(0, 5, 1); trap(0, 0, 3) ! state; trap(1, 1, 0) ! state; trap(1, 1, 3) = 2; sink(1, 1, 0); witness(0, 6, 0) = 0
            ofCell(3, 3) = 0; trap(0, 0, 3) ! state; sink(0, 0, 3); trap(0, 0, 0) ! state; trap(0, 0, 1) ! state; witness(1, 6, 1) = 0; ofCell(11, 3) = 1; trap(1, 1, 11) = 2
            """);
        Script.run("promise 10, barred, and whatever else is told of them", """
            peg(0, 0, 1, 2); peg(1, 20, 1, 1); sink(0, 0, 0); trap(0, 0, 1); rat(1, 1) = -1; trap(1, 1, 20) ! state; trap(0, 0, 1) = 1; ofClaim(0, 6) = 72
            """);
    }
}
