/** Promises 12, 13, 14, 15, 23, 24 and 25. */
public final class StonesTest {
    /** Two stones of PERSON 1: 100 carats of depth 2, and 9 carats of depth 0. */
    private static final String TWO_STONES = """
        seam(0, 100, 2); seam(1, 9, 0); peg(1, 0, 1, 4); sink(0, 1, 0) = 100; dig(0, 1, 1) = 9; divide(0) = 2
        """;
    /** A stone in the PARCEL of CLAIM 0. */
    private static final String IN_PARCEL = "seam(0, 100, 2); peg(1, 0, 1, 4); sink(0, 1, 0) = 100;";

    public static void main(String[] args) {
        divide();
        rub();
        bid();
        sell();
        ofStone();
        purse();
        carats();
        Script.end("StonesTest");
    }

    private static void divide() {
        Script.run("promise 12", """
            divide(0) ! bounds; peg(5, 0, 4, 4); divide(-1) ! bounds; divide(1) ! bounds; divide(0) ! state
            partner(0, 2, 4) = 8; seam(0, 10, 0); seam(1, 30, 0); seam(10, 30, 0); seam(11, 20, 0); seam(2, 30, 0)
            sink(0, 5, 0); dig(0, 5, 10); dig(0, 5, 1); dig(0, 5, 11); dig(0, 5, 2); divide(0) = 5
            ofStone(0, 2) = 2; ofStone(1, 2) = 5; ofStone(2, 2) = 5; ofStone(3, 2) = 5; ofStone(4, 2) = 2
            divide(0) ! state; ofClaim(0, 5) = 0; ofStone(1, 3) = 0; carats(2) = 0; carats(3) = 120
            """);
        Script.run("promise 12, of several the lowest person", """
            peg(6, 0, 1, 4); partner(0, 3, 6) = 6; partner(0, 1, 1) = 5; partner(0, 0, 1) = 4
            seam(0, 12, 0); seam(1, 12, 0); seam(2, 12, 0); sink(0, 6, 0); dig(0, 6, 1); dig(0, 6, 2)
            divide(0) = 3; ofStone(0, 2) = 3; ofStone(1, 2) = 6; ofStone(2, 2) = 3
            """);
        Script.run("promise 12, equal shares", """
            peg(6, 0, 1, 4); partner(0, 3, 4) = 8; partner(0, 1, 4) = 4; seam(0, 5, 0); seam(1, 7, 0); seam(2, 7, 0)
            sink(0, 6, 0); dig(0, 6, 1); dig(0, 6, 2); divide(0) = 3; ofStone(1, 2) = 1; ofStone(2, 2) = 3; ofStone(0, 2) = 6
            ofPerson(0, 2) = 0; ofPerson(1, 2) = 1; ofPerson(3, 2) = 1; ofPerson(6, 2) = 1
            """);
        Script.run("promise 12, each division for itself, and only the claim's own stones", """
            seam(0, 50, 0); seam(1, 10, 0); seam(20, 99, 0); seam(21, 98, 0); peg(2, 0, 1, 2); peg(3, 20, 1, 2); partner(0, 1, 6) = 6
            sink(0, 2, 0); sink(1, 3, 20); divide(0) = 1; ofStone(0, 2) = 1; ofStone(1, 2) = -1; dig(0, 2, 1); rat(7, 21) = 98; divide(0) = 1; ofStone(2, 2) = 1
            ofClaim(1, 5) = 1; divide(1) = 1; ofStone(1, 2) = 3; ofStone(3, 2) = 7; divide(1) ! state
            """);
        Script.run("promise 12, a lapsed one", "seam(0, 5, 0); peg(1, 0, 1, 1); sink(0, 1, 0); pass(99); ofClaim(0, 2) = 0; divide(0) = 1; ofStone(0, 2) = 1");
        Script.run("promise 12, by the whole parcel exactly, the lesser share first", """
            peg(1, 0, 2, 4); partner(0, 0, 3); seam(10, 7, 0); seam(11, 3, 0); sink(0, 1, 10); rat(5, 11) = 3; divide(0) = 1
            seam(0, 10, 0); seam(1, 5, 0); seam(2, 5, 0); dig(0, 1, 0); dig(0, 1, 1); dig(0, 1, 2); divide(0) = 3
            ofStone(2, 2) = 1; ofStone(3, 2) = 0; ofStone(4, 2) = 1
            """);
        Script.run("promise 12, by the whole parcel exactly, the greater share first", """
            peg(0, 0, 2, 4); partner(0, 1, 3); seam(10, 7, 0); seam(11, 3, 0); sink(0, 0, 10); rat(5, 11) = 3; divide(0) = 1
            seam(0, 10, 0); seam(1, 5, 0); seam(2, 5, 0); dig(0, 0, 0); dig(0, 0, 1); dig(0, 0, 2); divide(0) = 3
            ofStone(2, 2) = 0; ofStone(3, 2) = 0; ofStone(4, 2) = 1
            """);
        Script.run("promise 12, only the people get any", """
            peg(4, 0, 1, 3); seam(0, 900, 0); seam(1, 5, 0); seam(2, 4, 0); sink(0, 4, 0); dig(0, 4, 1); dig(0, 4, 2); partner(0, 7, 1)
            divide(0) = 3; ofStone(0, 2) = 4; ofStone(1, 2) = 7; ofStone(2, 2) = 7; ofPerson(0, 2) = 0
            """);
        Script.run("promise 12, whatever was found behind the last division", """
            peg(4, 0, 1, 3); seam(0, 9, 0); seam(1, 5, 0); seam(2, 4, 0); sink(0, 4, 0); divide(0) = 1; dig(0, 4, 1); dig(0, 4, 2); ofClaim(0, 5) = 2; divide(0) = 2; ofPerson(4, 2) = 3
            """);
    }

    private static void rub() {
        Script.run("promise 13", TWO_STONES + """
            rub(0) = 90; ofStone(0, 1) = 0; ofStone(0, 4) = 180; rub(0) = 81; ofStone(0, 1) = 1; ofStone(0, 4) = 810; rub(0) = 73; rub(0) = 66; ofStone(0, 1) = 1
            ofStone(0, 6) = 4; rub(0) = 60; ofStone(0, 1) = 2; ofStone(0, 4) = 0; ofStone(0, 0) = 60; rub(0) ! state; ofStone(0, 6) = 5; ofStone(0, 0) = 60; carats(5) = 40
            ofStone(1, 1) = 1; rub(1) = 9; ofStone(1, 1) = 1; rub(1) = 9; ofStone(1, 1) = 1; ofStone(1, 4) = 90; rub(1) = 9; ofStone(1, 1) = 2; ofStone(1, 4) = 0; rub(1) ! state
            ofStone(1, 6) = 3; carats(5) = 40
            """);
        Script.run("promise 13, wrong inputs", "rub(0) ! bounds;" + IN_PARCEL + """
            rub(-1) ! bounds; rub(1) ! bounds; rub(2147483647) ! bounds; rub(0) ! state; ofStone(0, 0) = 100; ofStone(0, 6) = 0; divide(0); rub(0) = 90
            bid(0, 0, 1); sell(0) = 0; rub(0) ! state; ofStone(0, 0) = 90; ofStone(0, 6) = 1; ofStone(0, 1) = 0; carats(5) = 10
            """);
        Script.run("promise 13, a ratted one", "seam(1, 19, 9); peg(1, 0, 1, 4); sink(0, 1, 0); rat(2, 1) = 19; rub(0) = 18; rub(0) = 17; ofStone(0, 1) = 0; 7 times rub(0) ; ofStone(0, 1) = 1; ofStone(0, 0) = 10; rub(0) = 9; rub(0) = 9; ofStone(0, 1) = 1; rub(0) = 9; ofStone(0, 1) = 2; rub(0) ! state");
    }

    private static void bid() {
        Script.run("promise 14", "bid(0, 0, 1) ! bounds;" + TWO_STONES + """
            bid(0, 0, 1) = 1; bid(4, 0, 99999) = 2; bid(0, 1, 5) = 1; bid(2, 0, 20001) = 3; bid(0, 0, 2) ! state; bid(4, 0, 1) ! state; bid(1, 0, 7) = 4; bid(3, 0, 7) = 5
            bid(3, 0, 7) ! state; purse(4) = 20000; bid(4, 1, 1) = 2
            """);
        Script.run("promise 14, wrong inputs", IN_PARCEL + """
            bid(0, 0, 1) ! state; bid(-1, 0, 1) ! bounds; bid(5, 0, 1) ! bounds; bid(0, -1, 1) ! bounds; bid(0, 1, 1) ! bounds; bid(5, 0, 0) ! bounds; bid(0, 1, 0) ! bounds
            bid(0, 0, 0) ! argument; bid(0, 0, 100000) ! argument; bid(0, 0, -1) ! argument; bid(0, 0, 2147483647) ! argument; divide(0)
            bid(0, 0, 0) ! argument; bid(0, 0, 100000) ! argument; bid(0, 0, 10) = 1; bid(0, 0, 0) ! argument; sell(0) = 0; bid(1, 0, 10) ! state; bid(1, 0, 0) ! argument; bid(0, 0, 10) ! state
            """);
        Script.run("promise 14, a dead one", TWO_STONES + "3 times rub(1) = 9; ofStone(1, 1) = 2; bid(2, 1, 30) = 1; sell(1) = 2; ofPerson(1, 0) = 30; ofStone(1, 4) = 0");
    }

    private static void sell() {
        Script.run("promise 15", "sell(0) ! bounds;" + TWO_STONES + """
            sell(0) ! state; bid(3, 0, 500); bid(1, 0, 700); bid(0, 0, 700); bid(2, 0, 20001); sell(0) = 1; purse(1) = 19300; purse(0) = 20000; purse(2) = 20000; purse(3) = 20000
            ofPerson(1, 0) = 700; ofStone(0, 2) = 1; ofStone(0, 5) = 1; sell(0) ! state; purse(1) = 19300; ofPerson(1, 0) = 700; carats(4) = 100; carats(3) = 9
            """);
        Script.run("promise 15, wrong inputs", IN_PARCEL + "sell(-1) ! bounds; sell(1) ! bounds; sell(2147483647) ! bounds; sell(0) ! state; divide(0); sell(0) ! state; bid(0, 0, 20001); sell(0) ! state; ofStone(0, 5) = -1; ofPerson(1, 0) = 0; bid(1, 0, 20000); sell(0) = 1; purse(1) = 0");
        Script.run("promise 15, what a purse has now", TWO_STONES + """
            bid(2, 0, 15000); bid(2, 1, 10000); bid(4, 1, 1); sell(1) = 2; purse(2) = 10000; sell(0) ! state; bid(0, 0, 3) = 2; sell(0) = 0; purse(0) = 19997; ofPerson(1, 0) = 10003; purse(2) = 10000
            """);
        Script.run("promise 15, of several the first who bid", TWO_STONES + """
            bid(4, 0, 50); bid(0, 0, 50); bid(2, 0, 50); bid(1, 0, 49); sell(0) = 4; bid(2, 1, 20000); bid(1, 1, 20000); bid(4, 1, 20000); sell(1) = 2; purse(2) = 0; purse(4) = 19950
            """);
        Script.run("promise 15, bids stay as it is rubbed", TWO_STONES + "bid(1, 0, 10); rub(0) = 90; bid(1, 0, 20) ! state; bid(0, 0, 5) = 2; sell(0) = 1; ofStone(0, 4) = 180; ofStone(0, 0) = 90");
    }

    private static void ofStone() {
        Script.run("promise 23", "ofStone(0, 0) ! bounds;" + IN_PARCEL + """
            ofStone(-1, 0) ! bounds; ofStone(1, 0) ! bounds; ofStone(1, 8) ! bounds; ofStone(0, 8) ! argument; ofStone(0, -1) ! argument
            ofStone(0, 0) = 100; ofStone(0, 1) = 0; ofStone(0, 2) = -1; ofStone(0, 3) = 0; ofStone(0, 4) = 200; ofStone(0, 5) = -1; ofStone(0, 6) = 0; ofStone(0, 7) = 0
            partner(0, 6, 11); divide(0); ofStone(0, 2) = 6; ofStone(0, 3) = 0; rub(0) = 90; ofStone(0, 0) = 90; ofStone(0, 6) = 1; ofStone(0, 4) = 180; rub(0); ofStone(0, 1) = 1
            ofStone(0, 4) = 810; bid(3, 0, 44); ofStone(0, 5) = -1; sell(0); ofStone(0, 5) = 3; ofStone(0, 2) = 6; ofStone(0, 4) = 810; ofStone(0, 6) = 2; ofStone(0, 3) = 0; ofStone(0, 7) = 0
            """);
        Script.run("promise 23, a ratted one, and a second claim", """
            seam(98, 5, 1); seam(97, 6, 0); peg(0, 0, 1, 1); peg(1, 97, 1, 3); sink(1, 1, 99); rat(2, 98) = 5; dig(1, 1, 97) = 6
            ofStone(0, 3) = -1; ofStone(0, 2) = 2; ofStone(0, 7) = 98; ofStone(0, 5) = -1; ofStone(1, 3) = 1; ofStone(1, 2) = -1; ofStone(1, 7) = 97; ofStone(1, 4) = 60
            """);
    }

    private static void purse() {
        Script.run("promise 24", TWO_STONES + """
            purse(-1) ! bounds; purse(5) ! bounds; purse(2147483647) ! bounds; purse(0) = 20000; purse(4) = 20000; bid(4, 0, 20000); bid(3, 1, 1); purse(4) = 20000
            sell(0) = 4; sell(1) = 3; purse(4) = 0; purse(3) = 19999; purse(0) = 20000
            """);
    }

    private static void carats() {
        Script.run("promise 25", """
            carats(-1) ! argument; carats(6) ! argument; carats(2147483647) ! argument
            seam(0, 100, 0); seam(1, 40, 0); seam(2, 30, 0); seam(99, 7, 0); carats(0) = 177; carats(1) = 177; peg(0, 0, 1, 4); sink(0, 0, 0); carats(1) = 77; carats(2) = 100; carats(0) = 177
            rat(1, 1); carats(1) = 37; carats(3) = 40; divide(0); carats(2) = 0; carats(3) = 140; rub(0); carats(3) = 130; carats(5) = 10; carats(0) = 177; dig(0, 0, 2); carats(2) = 30; carats(1) = 7
            bid(0, 0, 9); sell(0); carats(4) = 90; carats(3) = 40; carats(5) = 10; rub(1); carats(5) = 14; carats(3) = 36; carats(4) = 90; carats(0) = 177; carats(1) = 7; carats(2) = 30
            """);
    }
}
