/** Promises 26 and 27: both must answer the same, so each line is played with both names. */
public final class PlanTest {
    public static void main(String[] args) {
        both("wrong inputs", """
            plan(0, 0) ! bounds; plan(0, 4) ! bounds; peg(0, 0, 1, 1); plan(-1, 0) ! bounds; plan(1, 0) ! bounds; plan(1, 4) ! bounds
            plan(0, -1) ! argument; plan(0, 4) ! argument; plan(0, 2147483647) ! argument; plan(2147483647, 1) ! bounds; plan(0, 3) = 0; plan(0, 0) = 0
            """);
        both("nothing open, then more and more digs", """
            seam(0, 1, 0); seam(1, 2, 0); seam(2, 4, 0); seam(3, 8, 0); peg(0, 0, 2, 4); plan(0, 3) = 0; sink(0, 0, 0)
            plan(0, 0) = 0; plan(0, 1) = 2; plan(0, 2) = 6; plan(0, 3) = 6; prop(0, 0, 0); plan(0, 3) = 14
            """);
        both("the way round what falls", """
            seam(3, 90, 0); seam(12, 1, 0); peg(0, 0, 2, 4); sink(0, 0, 0); dig(0, 0, 1); dig(0, 0, 2); plan(0, 1) = 1; plan(0, 3) = 1; plan(0, 2) = 1
            dig(0, 0, 12); dig(0, 0, 13); plan(0, 1) = 0; prop(0, 0, 2); plan(0, 1) = 90
            """);
        both("the column falls too", """
            seam(30, 90, 0); seam(21, 1, 0); peg(0, 0, 4, 2); sink(0, 0, 0); dig(0, 0, 10); dig(0, 0, 20); plan(0, 1) = 1; plan(0, 2) = 1; prop(0, 0, 10); plan(0, 1) = 90; plan(0, 2) = 91
            """);
        both("one's own digs make a fall as well", """
            seam(2, 5, 0); seam(3, 5, 0); peg(0, 0, 1, 4); sink(0, 0, 0); plan(0, 2) = 5; plan(0, 3) = 5; plan(0, 1) = 0; seam(1, 1, 0); plan(0, 3) = 6
            """);
        both("in a column", """
            seam(20, 5, 0); seam(30, 5, 0); peg(0, 0, 4, 1); sink(0, 0, 0); plan(0, 2) = 5; plan(0, 3) = 5; plan(0, 1) = 0; seam(10, 1, 0); plan(0, 3) = 6
            """);
        both("fewer, and a poor way to a rich cell", """
            seam(1, 3, 0); seam(11, 50, 0); seam(22, 99, 0); seam(10, 2, 0); peg(0, 0, 4, 4); sink(0, 0, 0); plan(0, 1) = 3; plan(0, 2) = 53; plan(0, 3) = 55; dig(0, 0, 1); plan(0, 3) = 149
            """);
        both("whoever is barred, and whatever traps lie there", """
            seam(1, 7, 0); peg(0, 0, 1, 2); peg(1, 10, 1, 2); sink(0, 0, 0); sink(1, 1, 10); trap(1, 1, 11); trap(0, 0, 1); rat(0, 11) = -1; dig(0, 0, 1) ! state; plan(0, 1) = 7; plan(0, 3) = 7
            """);
        both("only what the claim holds, and while it is live", """
            seam(1, 7, 0); seam(2, 9, 0); seam(10, 99, 0); peg(0, 0, 1, 3); peg(1, 2, 1, 1); witness(1, 2, 0); sink(0, 0, 0); plan(0, 3) = 16; plan(1, 3) = 0; pass(1); witness(0, 2, 1); plan(0, 3) = 7
            dig(0, 0, 1); plan(1, 1) = 9; plan(0, 2) = 0; pass(71); plan(1, 1) = 0; plan(0, 1) = 9; dig(0, 0, 2) = 9; pass(72); plan(0, 3) = 0
            """);
        both("rubble is a way, without carats", """
            seam(2, 9, 0); seam(12, 8, 0); seam(13, 70, 0); peg(0, 0, 2, 4); sink(0, 0, 0); dig(0, 0, 1); dig(0, 0, 2); dig(0, 0, 3); ofCell(2, 0) = 2; plan(0, 3) = 0; sink(0, 0, 1)
            plan(0, 1) = 0; plan(0, 2) = 8; plan(0, 3) = 78
            """);
        both("the shafts that are left do not count", "seam(0, 7, 0); peg(0, 0, 1, 1); plan(0, 3) = 0");
        both("a neighbour outside the claim", "seam(10, 7, 0); peg(0, 0, 1, 1); peg(1, 10, 1, 1); plan(1, 1) = 0; sink(0, 0, 0); plan(1, 1) = 7; plan(1, 3) = 7");
        both("falls with what is open outside the claim", """
            seam(3, 7, 0); peg(0, 0, 1, 3); peg(1, 3, 2, 1); sink(0, 0, 0); dig(0, 0, 1); dig(0, 0, 2); plan(1, 1) = 0; prop(0, 0, 1); plan(1, 1) = 7
            """);
        both("nothing changes by planning", """
            seam(1, 3, 0); seam(11, 50, 0); peg(0, 0, 4, 4); sink(0, 0, 0); plan(0, 3) = 53; ofCell(1, 0) = 0; ofCell(11, 0) = 0; ofCell(10, 0) = 0; ofCell(20, 0) = 0
            carats(1) = 53; carats(2) = 0; ofClaim(0, 5) = 0; pass(1); plan(0, 3) = 53; ofClaim(0, 6) = 71; dig(0, 0, 11) ! state; bore(11) = 2; dig(0, 0, 1) = 3; dig(0, 0, 11) = 50; plan(0, 3) = 0
            """);
        both("a claim amid what is open", """
            peg(0, 1, 1, 3); peg(1, 10, 3, 1); peg(2, 41, 1, 3); peg(3, 14, 3, 1); peg(4, 11, 3, 3)
            sink(0, 0, 1); dig(0, 0, 2); dig(0, 0, 3); sink(1, 1, 10); dig(1, 1, 20); dig(1, 1, 30); sink(2, 2, 41); dig(2, 2, 42); dig(2, 2, 43); sink(3, 3, 14); dig(3, 3, 24); dig(3, 3, 34)
            seam(11, 100, 0); seam(12, 30, 0); seam(13, 99, 0); seam(21, 20, 0); seam(22, 500, 0); seam(23, 40, 0); seam(31, 98, 0); seam(32, 10, 0); seam(33, 97, 0)
            plan(4, 1) = 100; plan(4, 2) = 540; plan(4, 3) = 640; prop(0, 0, 3); plan(4, 3) = 640
            """);
        Script.end("PlanTest");
    }

    private static void both(String title, String lines) {
        Script.run("promise 26, " + title, lines);
        Script.run("promise 27, " + title, lines.replace("plan(", "planAnew("));
    }
}
