/** Promises 4, 5, 6, 19, 20 and 21. */
public final class ClaimsTest {
    public static void main(String[] args) {
        peg();
        witness();
        partner();
        ofClaim();
        share();
        verdict();
        Script.end("ClaimsTest");
    }

    private static void peg() {
        Script.run("promise 4", """
            peg(0, 0, 1, 1) = 0; peg(7, 99, 1, 1) = 1; peg(3, 66, 4, 4) = 2; peg(3, 6, 4, 4) = 3; peg(2, 60, 4, 4) = 4
            ofClaim(0, 0) = 0; ofClaim(1, 0) = 7; ofClaim(2, 0) = 3; ofClaim(2, 3) = 15; ofClaim(3, 3) = 16
            ofCell(69, 3) = 2; ofCell(96, 3) = 2; ofCell(99, 3) = 1; ofCell(9, 3) = 3; ofCell(10, 3) = -1; ofCell(39, 3) = 3
            ofCell(90, 3) = 4; ofCell(93, 3) = 4; ofCell(94, 3) = -1; ofCell(59, 3) = -1; ofCell(65, 3) = -1
            peg(4, 44, 1, 4) = 5; ofClaim(5, 3) = 4; ofCell(47, 3) = 5; ofCell(54, 3) = -1
            peg(4, 50, 2, 1) = 6; ofClaim(6, 3) = 1; ofCell(50, 3) = 6; ofCell(51, 3) = -1
            """);
        Script.run("promise 4, wrong inputs", """
            peg(-1, 0, 1, 1) ! bounds; peg(8, 0, 1, 1) ! bounds; peg(0, -1, 1, 1) ! bounds; peg(0, 100, 1, 1) ! bounds
            peg(8, 100, 0, 0) ! bounds; peg(0, 100, 0, 0) ! bounds; peg(8, 0, 9, 9) ! bounds
            peg(0, 0, 0, 1) ! argument; peg(0, 0, 5, 1) ! argument; peg(0, 0, 1, 0) ! argument; peg(0, 0, 1, 5) ! argument
            peg(0, 0, 2147483647, 1) ! argument; peg(0, 0, 1, -2147483648) ! argument
            peg(0, 70, 4, 1) ! argument; peg(0, 7, 1, 4) ! argument; peg(0, 99, 2, 1) ! argument; peg(0, 99, 1, 2) ! argument
            peg(0, 9, 1, 2) ! argument; peg(0, 90, 2, 1) ! argument; peg(0, 18, 1, 3) ! argument; peg(0, 80, 3, 1) ! argument
            ofClaim(0, 0) ! bounds; peg(0, 6, 1, 4) = 0; peg(0, 60, 4, 1) = 1
            """);
        Script.run("promise 4, twelve", """
            12 times peg(0, 0, 1, 1); ofClaim(11, 0) = 0; ofClaim(12, 0) ! bounds
            peg(0, 0, 1, 1) ! state; peg(0, 0, 0, 1) ! argument; peg(0, 99, 2, 2) ! argument; peg(9, 0, 1, 1) ! bounds
            pass(72); peg(0, 0, 1, 1) ! state
            """);
        Script.run("promise 4, barred", """
            peg(0, 0, 1, 2); sink(0, 0, 0); trap(0, 0, 1); rat(5, 1) = -1
            peg(5, 0, 1, 1) ! state; peg(5, 0, 5, 1) ! argument; peg(6, 0, 1, 1) = 1
            pass(99); pass(68) = 167; peg(5, 0, 1, 1) ! state; pass(1); peg(5, 0, 1, 1) = 2
            """);
    }

    private static void witness() {
        Script.run("promise 5", """
            pass(50); peg(0, 0, 1, 1) = 0; ofClaim(0, 1) = 50; pass(10)
            witness(0, 1, 60) = 60; witness(0, 2, 0) = 0; ofClaim(0, 1) = 0; witness(0, 3, 10) = 10
            witness(0, 4, 20) = 10; witness(0, 5, 20) = 20; witness(0, 6, 5) = 10; witness(0, 7, 5) = 10
            ofClaim(0, 1) = 10
            """);
        Script.run("promise 5, the same hour told", """
            pass(9); peg(7, 0, 1, 1); witness(0, 0, 3) = 3; witness(0, 1, 3) = 3; witness(0, 2, 8) = 3; witness(0, 3, 8) = 3
            witness(0, 4, 8) = 8; witness(0, 5, 1) = 3; witness(0, 6, 1) = 3
            """);
        Script.run("promise 5, wrong inputs", """
            witness(0, 1, 0) ! bounds; pass(3); peg(0, 0, 1, 1)
            witness(-1, 1, 0) ! bounds; witness(1, 1, 0) ! bounds; witness(0, -1, 0) ! bounds; witness(0, 8, 0) ! bounds
            witness(1, 1, 99) ! bounds; witness(0, 8, 99) ! bounds
            witness(0, 1, -1) ! argument; witness(0, 1, 4) ! argument; witness(0, 0, 4) ! argument
            witness(0, 1, 2147483647) ! argument; witness(0, 1, -2147483648) ! argument
            witness(0, 0, 1) ! state; ofClaim(0, 1) = 3; partner(0, 2, 1); witness(0, 2, 1) ! state; ofClaim(0, 1) = 3
            witness(0, 1, 3) = 3; witness(0, 1, 3) ! state; witness(0, 1, 0) ! state; witness(0, 1, 4) ! argument
            ofClaim(0, 1) = 3; witness(0, 3, 0) = 0; witness(0, 4, 2) = 2
            """);
        Script.run("promise 5, a witness who becomes a partner", """
            pass(8); peg(0, 0, 1, 1); witness(0, 1, 2) = 2; partner(0, 1, 1) = 11; ofClaim(0, 1) = 2; witness(0, 1, 5) ! state
            witness(0, 2, 5) = 2; witness(0, 3, 6) = 5
            """);
        Script.run("promise 5, a lapsed one, and a barred witness", """
            peg(0, 0, 1, 2); sink(0, 0, 0); trap(0, 0, 1); rat(5, 1) = -1; pass(72); ofClaim(0, 2) = 0
            witness(0, 5, 72) = 72; ofClaim(0, 1) = 72; ofClaim(0, 2) = 0; ofCell(0, 3) = -1
            """);
    }

    private static void partner() {
        Script.run("promise 6", """
            peg(3, 0, 1, 1); partner(0, 0, 1) = 11; partner(0, 1, 9) = 2; partner(0, 2, 2) ! state; partner(0, 2, 1) = 1
            partner(0, 4, 1) ! state; share(0, 3) = 1; share(0, 0) = 1; share(0, 1) = 9; share(0, 2) = 1; share(0, 4) = 0
            """);
        Script.run("promise 6, edges", """
            peg(3, 0, 1, 1); peg(4, 0, 1, 1); partner(0, 7, 11) = 1; partner(1, 0, 11) = 1; share(0, 7) = 11; share(0, 0) = 0
            share(1, 0) = 11; share(1, 4) = 1; partner(1, 3, 1) ! state; share(1, 4) = 1
            """);
        Script.run("promise 6, wrong inputs", """
            partner(0, 1, 1) ! bounds; peg(3, 0, 1, 1)
            partner(-1, 1, 1) ! bounds; partner(1, 1, 1) ! bounds; partner(0, -1, 1) ! bounds; partner(0, 8, 1) ! bounds
            partner(0, 8, 0) ! bounds; partner(1, 3, 12) ! bounds
            partner(0, 1, 0) ! argument; partner(0, 1, 12) ! argument; partner(0, 3, 12) ! argument; partner(0, 3, -1) ! argument
            partner(0, 1, 2147483647) ! argument; partner(0, 1, -2147483648) ! argument
            partner(0, 3, 1) ! state; share(0, 3) = 12; partner(0, 1, 5) = 7; partner(0, 1, 1) ! state; share(0, 1) = 5
            partner(0, 2, 7) ! state; partner(0, 2, 6) = 1
            """);
        Script.run("promise 6, a lapsed one, and a barred partner", """
            peg(0, 0, 1, 2); sink(0, 0, 0); trap(0, 0, 1); rat(5, 1) = -1; partner(0, 5, 2) = 10; pass(72); partner(0, 6, 2) = 8
            """);
    }

    private static void ofClaim() {
        Script.run("promise 19", """
            ofClaim(0, 0) ! bounds; peg(6, 33, 2, 3); ofClaim(-1, 0) ! bounds; ofClaim(1, 0) ! bounds; ofClaim(1, 7) ! bounds
            ofClaim(0, 7) ! argument; ofClaim(0, -1) ! argument; ofClaim(0, 2147483647) ! argument
            ofClaim(0, 0) = 6; ofClaim(0, 1) = 0; ofClaim(0, 2) = 1; ofClaim(0, 3) = 6; ofClaim(0, 4) = 0; ofClaim(0, 5) = 0; ofClaim(0, 6) = 72
            seam(34, 5, 0); seam(35, 5, 0); sink(0, 6, 33) = 0; ofClaim(0, 4) = 1; ofClaim(0, 5) = 0; dig(0, 6, 34) = 5; ofClaim(0, 5) = 1
            dig(0, 6, 35) = 5; ofClaim(0, 5) = 2; sink(0, 6, 43); ofClaim(0, 4) = 2; divide(0) = 2; ofClaim(0, 5) = 0; ofClaim(0, 4) = 2
            """);
        Script.run("promise 19, lapsing", """
            pass(3); peg(0, 0, 1, 4); pass(71) = 74; ofClaim(0, 2) = 1; ofClaim(0, 6) = 1; sink(0, 0, 0); ofClaim(0, 6) = 72
            pass(70) = 144; ofClaim(0, 6) = 2; dig(0, 0, 1); ofClaim(0, 6) = 72; pass(71); ofClaim(0, 6) = 1; ofClaim(0, 3) = 4
            pass(1); ofClaim(0, 2) = 0; ofClaim(0, 6) = 0; ofClaim(0, 3) = 0; pass(99); ofClaim(0, 6) = 0; ofClaim(0, 2) = 0; ofClaim(0, 0) = 0
            """);
        Script.run("promise 19, what is not to work", """
            peg(0, 0, 1, 4); sink(0, 0, 0); seam(1, 9, 0); dig(0, 0, 1); pass(23) = 23; ofClaim(0, 6) = 49
            prop(0, 0, 0); trap(0, 0, 3); rat(1, 2) = 0; partner(0, 1, 1); witness(0, 2, 5); divide(0) = 1
            trap(0, 0, 2) ! state; dig(0, 0, 2) ! state; sink(0, 0, 0) ! state; ofClaim(0, 6) = 49; ofClaim(0, 4) = 1
            """);
        Script.run("promise 19, its hour is not when it lapses", """
            pass(60); peg(0, 0, 1, 1); witness(0, 1, 0) = 0; pass(30); ofClaim(0, 2) = 1; ofClaim(0, 6) = 42; ofClaim(0, 1) = 0
            witness(0, 2, 90); witness(0, 3, 90) = 90; ofClaim(0, 6) = 42
            """);
    }

    private static void share() {
        Script.run("promise 20", """
            share(0, 0) ! bounds; peg(2, 0, 1, 1); share(0, 2) = 12; share(0, 0) = 0; share(0, 7) = 0
            share(-1, 0) ! bounds; share(1, 0) ! bounds; share(0, -1) ! bounds; share(0, 8) ! bounds; share(1, 8) ! bounds
            share(0, 2147483647) ! bounds; share(-2147483648, 0) ! bounds
            partner(0, 7, 5); share(0, 2) = 7; share(0, 7) = 5; pass(99); share(0, 7) = 5; witness(0, 1, 1); share(0, 1) = 0
            """);
    }

    private static void verdict() {
        Script.run("promise 21", """
            verdict(0, 1) ! bounds; verdict(0, 0) ! bounds; peg(0, 0, 2, 2); verdict(0, 0) ! argument; verdict(0, 1) ! bounds
            verdict(1, 0) ! bounds; verdict(1, 1) ! bounds; verdict(-1, 0) ! bounds; verdict(0, -1) ! bounds; verdict(-1, -1) ! bounds
            pass(5); peg(1, 11, 2, 2); verdict(0, 1) = 0; verdict(1, 0) = 0; verdict(1, 1) ! argument
            witness(0, 7, 5) = 5; verdict(0, 1) = 0; verdict(1, 0) = 0; witness(1, 7, 4) = 4; verdict(0, 1) = 1; verdict(1, 0) = 1
            pass(67) = 72; verdict(0, 1) = -1; verdict(1, 0) = -1; verdict(0, 0) ! argument
            """);
        Script.run("promise 21, the second lapses", """
            peg(0, 0, 2, 2); peg(0, 0, 2, 2); verdict(0, 1) = 0; sink(0, 0, 0); pass(71); dig(0, 0, 1); pass(1); verdict(0, 1) = -1; verdict(1, 0) = -1
            """);
        Script.run("promise 21, no cell in common", """
            peg(0, 33, 2, 2); peg(0, 35, 2, 2); peg(0, 53, 2, 2); peg(0, 13, 2, 2); peg(0, 31, 2, 2); peg(0, 55, 2, 2)
            verdict(0, 1) = -1; verdict(0, 2) = -1; verdict(0, 3) = -1; verdict(0, 4) = -1; verdict(0, 5) = -1
            verdict(1, 0) = -1; verdict(2, 0) = -1; verdict(3, 0) = -1; verdict(4, 0) = -1; verdict(5, 0) = -1
            peg(0, 34, 2, 2); peg(0, 43, 2, 2); peg(0, 22, 2, 2)
            verdict(0, 6) = 0; verdict(7, 0) = 0; verdict(0, 8) = 0; verdict(6, 1) = 1; verdict(6, 7) = 6; verdict(7, 8) = -1
            peg(0, 33, 1, 1); verdict(9, 0) = 0; verdict(9, 1) = -1; peg(0, 29, 1, 1); peg(0, 30, 1, 1); verdict(10, 11) = -1
            """);
    }
}
