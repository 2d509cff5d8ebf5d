/** Promises 11 and 22. */
public final class RattersTest {
    public static void main(String[] args) {
        rat();
        night();
        traps();
        ofPerson();
        Script.end("RattersTest");
    }

    private static void rat() {
        Script.run("promise 11", """
            seam(1, 50, 1); seam(10, 7, 0); peg(0, 0, 2, 2); partner(0, 1, 3); sink(0, 0, 0)
            rat(0, 1) ! state; rat(1, 1) ! state; rat(2, 11) ! state; rat(2, 0) ! state; rat(2, 2) ! state; rat(2, 20) ! state
            rat(2, 1) = 50; ofCell(1, 0) = 1; ofStone(0, 0) = 50; ofStone(0, 1) = 0; ofStone(0, 2) = 2; ofStone(0, 3) = -1; ofStone(0, 7) = 1
            ofPerson(2, 2) = 1; ofClaim(0, 5) = 0; rat(2, 1) ! state; rat(3, 11) = 0; ofStone(1, 0) ! bounds; rat(2, 10) = 7; ofPerson(2, 2) = 2; carats(2) = 0; carats(3) = 57
            """);
        Script.run("promise 11, wrong inputs", """
            rat(-1, 0) ! bounds; rat(8, 0) ! bounds; rat(0, -1) ! bounds; rat(0, 100) ! bounds; rat(2147483647, 0) ! bounds; rat(0, -2147483648) ! bounds
            rat(0, 0) ! state; peg(0, 0, 1, 2); rat(1, 0) ! state; sink(0, 0, 0); rat(1, 1) = 0; pass(12); rat(8, 1) ! bounds; rat(1, 100) ! bounds
            """);
        Script.run("promise 11, rubble", """
            peg(0, 0, 2, 4); sink(0, 0, 0); dig(0, 0, 1); dig(0, 0, 2); dig(0, 0, 3); rat(1, 1) ! state; sink(0, 0, 10); rat(1, 0) = 0; ofCell(0, 0) = 1; rat(1, 1) = 0
            """);
        Script.run("promise 11, no claim holds it", """
            peg(0, 0, 1, 2); sink(0, 0, 0); pass(72) = 72; rat(1, 1) ! state; peg(1, 0, 1, 2); rat(1, 1) ! state; rat(0, 1) = 0; ofPerson(0, 2) = 0
            """);
        Script.run("promise 11, whose people are barred", """
            peg(0, 0, 1, 4); sink(0, 0, 0); peg(1, 10, 1, 4); dig(1, 1, 10); trap(1, 1, 11); rat(0, 11) = -1; ofPerson(0, 1) = 168; rat(2, 1) = 0
            """);
        Script.run("promise 11, the people of another claim", """
            seam(1, 4, 0); peg(0, 0, 1, 2); peg(1, 0, 1, 2); peg(2, 11, 1, 1); sink(0, 0, 0); rat(1, 1) = 4; ofPerson(1, 2) = 1; dig(2, 2, 11); ofClaim(0, 6) = 72
            """);
    }

    private static void night() {
        Script script = new Script("promise 11, night");
        script.play("peg(0, 0, 4, 4); sink(0, 0, 0); sink(0, 0, 22); prop(0, 0, 22); dig(0, 0, 1); dig(0, 0, 10)");
        script.play("pass(4) = 4; rat(1, 12) = 0; pass(1) = 5; rat(1, 11) ! state; pass(15) = 20; rat(1, 11) ! state");
        script.play("pass(1) = 21; rat(1, 11) = 0; pass(2) = 23; rat(1, 2) = 0; pass(1) = 24; rat(1, 32) = 0");
        script.play("pass(4) = 28; rat(1, 33) = 0; pass(1) = 29; rat(1, 31) ! state; pass(15) = 44; rat(1, 31) ! state");
        script.play("pass(1) = 45; rat(1, 31) = 0; pass(3) = 48; rat(1, 20) = 0");
    }

    private static void traps() {
        Script.run("promise 11, caught", """
            seam(1, 9, 0); peg(0, 0, 1, 4); sink(0, 0, 0); trap(0, 0, 1) = 1; rat(1, 1) = -1; ofCell(1, 0) = 0; ofCell(1, 2) = 0; bore(1) = 1
            ofStone(0, 0) ! bounds; ofPerson(1, 1) = 168; ofPerson(1, 2) = 0; ofPerson(1, 3) = 1; rat(1, 1) ! state; ofPerson(1, 3) = 1; rat(2, 1) = 9
            trap(0, 0, 2) = 1; trap(0, 0, 3) = 2; rat(2, 3) ! state; ofCell(3, 2) = 1; ofPerson(2, 1) = 0; rat(2, 2) = -1; trap(0, 0, 2) = 2
            pass(99) = 99; pass(68) = 167; ofPerson(1, 1) = 1; ofPerson(2, 1) = 1; pass(1); ofPerson(1, 1) = 0; pass(1); ofPerson(1, 1) = 0
            peg(0, 0, 1, 4); rat(1, 2) = -1; ofPerson(1, 1) = 168; ofPerson(1, 3) = 2; ofCell(2, 2) = 0
            """);
        Script.run("promise 11, no fall as one is caught", """
            peg(0, 0, 1, 4); sink(0, 0, 0); dig(0, 0, 1); dig(0, 0, 2); trap(0, 0, 3); rat(5, 3) = -1; ofCell(0, 0) = 1; ofCell(3, 0) = 0; rat(6, 3) = 0; ofCell(0, 0) = 2
            """);
        Script.run("promise 11, a trap of one's own", """
            peg(0, 0, 1, 4); trap(0, 0, 1); pass(72); peg(1, 0, 1, 4); sink(1, 1, 0); rat(0, 1) = -1; ofPerson(0, 1) = 168; trap(1, 1, 1) = 1
            """);
    }

    private static void ofPerson() {
        Script.run("promise 22", """
            ofPerson(-1, 0) ! bounds; ofPerson(8, 0) ! bounds; ofPerson(8, 4) ! bounds; ofPerson(0, -1) ! argument; ofPerson(0, 4) ! argument
            ofPerson(7, 2147483647) ! argument; ofPerson(7, 0) = 0; ofPerson(7, 3) = 0
            seam(0, 10, 0); seam(1, 20, 0); seam(2, 30, 0); peg(7, 0, 1, 3); sink(0, 7, 0) = 10; rat(6, 1) = 20; dig(0, 7, 2) = 30
            ofPerson(7, 2) = 0; ofPerson(6, 2) = 1; divide(0) = 2; ofPerson(7, 2) = 2; ofPerson(6, 2) = 1; ofPerson(0, 2) = 0
            bid(0, 0, 100); sell(0) = 0; ofPerson(7, 0) = 100; ofPerson(7, 2) = 1; bid(1, 2, 50); sell(2) = 1; ofPerson(7, 0) = 150; ofPerson(7, 2) = 0
            ofPerson(6, 0) = 0; 3 times rub(1); rub(1) ! state; ofPerson(6, 2) = 1; bid(4, 1, 1); sell(1); ofPerson(6, 0) = 1; ofPerson(6, 2) = 0; ofPerson(7, 0) = 150
            """);
        Script.run("promise 22, barred and caught", """
            pass(22); peg(0, 0, 1, 4); sink(0, 0, 0); trap(0, 0, 1); rat(3, 1) = -1; ofPerson(3, 1) = 168; ofPerson(3, 3) = 1; ofPerson(0, 3) = 0; ofPerson(0, 1) = 0
            pass(1); ofPerson(3, 1) = 167; pass(99); ofPerson(3, 1) = 68; pass(67); ofPerson(3, 1) = 1; pass(1); ofPerson(3, 1) = 0; ofPerson(3, 3) = 1
            """);
    }
}
