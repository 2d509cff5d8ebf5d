/** The sentences under "Parcels, stones", "Rooms" and "Plans" that name a boundary: each is a title here. */
public final class StonesTermsTest {
    /** PERSON 5 has STONE 0 of 100 carats and STONE 1 of 40, both of depth 1. */
    private static final String TWO = "seam(0, 100, 1); seam(1, 40, 1); peg(5, 0, 1, 4); sink(0, 5, 0); dig(0, 5, 1); divide(0) = 2;";

    public static void main(String[] args) {
        order();
        whom();
        thisDivision();
        tenth();
        shine();
        bids();
        sold();
        firstWhoBid();
        staysSold();
        books();
        plans();
        planEdges();
        lastCall();
        constants();
        Script.end("StonesTermsTest");
    }

    private static void order() {
        Script.run("from the most carats on, of several the lowest first", """
            seam(0, 6, 0); seam(1, 6, 0); seam(2, 12, 0); seam(10, 6, 0); peg(0, 0, 2, 4); partner(0, 1, 6); sink(0, 0, 0); dig(0, 0, 1); dig(0, 0, 2); dig(0, 0, 10); divide(0) = 4
            ofStone(2, 2) = 0; ofStone(0, 2) = 1; ofStone(1, 2) = 1; ofStone(3, 2) = 0
            """);
        Script.run("of several the lowest first: three alike for three", """
            seam(0, 8, 0); seam(1, 8, 0); seam(2, 8, 0); peg(7, 0, 1, 4); partner(0, 3, 4); partner(0, 5, 3); sink(0, 7, 0); dig(0, 7, 1); dig(0, 7, 2); divide(0) = 3
            ofStone(0, 2) = 7; ofStone(1, 2) = 3; ofStone(2, 2) = 5
            """);
    }

    private static void whom() {
        Script.run("is the most, of several the lowest PERSON", """
            seam(0, 9, 0); peg(7, 0, 1, 1); partner(0, 6, 6) = 6; sink(0, 7, 0); divide(0) = 1; ofStone(0, 2) = 6
            seam(1, 9, 0); peg(2, 1, 1, 1); partner(1, 6, 6) = 6; sink(1, 2, 1); divide(1) = 1; ofStone(1, 2) = 2
            seam(2, 9, 0); peg(4, 2, 1, 1); partner(2, 7, 4) = 8; partner(2, 0, 4) = 4; sink(2, 4, 2); divide(2) = 1; ofStone(2, 2) = 0
            """);
        Script.run("each go to one of the PEOPLE: also where what all lack is 0 or less", """
            seam(0, 1, 0); seam(1, 1, 0); seam(2, 10, 0); peg(3, 0, 1, 4); partner(0, 6, 1) = 11; sink(0, 3, 0); dig(0, 3, 1); dig(0, 3, 2) = 10; divide(0) = 3
            ofStone(2, 2) = 3; ofStone(0, 2) = 3; ofStone(1, 2) = 6; ofPerson(0, 2) = 0
            """);
        Script.run("the owner alone", "seam(0, 1, 0); seam(1, 999, 0); peg(7, 0, 1, 4); sink(0, 7, 0); dig(0, 7, 1); divide(0) = 2; ofStone(0, 2) = 7; ofStone(1, 2) = 7; ofPerson(7, 2) = 2; ofClaim(0, 5) = 0");
        Script.run("1 twelfth of one STONE is less than 11", "seam(0, 999, 0); peg(7, 0, 1, 1); partner(0, 0, 11) = 1; sink(0, 7, 0); divide(0) = 1; ofStone(0, 2) = 0");
        Script.run("twelfths as they are when it is divided", "seam(0, 12, 0); peg(7, 0, 1, 1); sink(0, 7, 0); partner(0, 0, 6) = 6; divide(0) = 1; ofStone(0, 2) = 0; ofPerson(7, 2) = 0");
        Script.run("eight PEOPLE", """
            seam(0, 5, 0); seam(1, 5, 0); seam(2, 5, 0); seam(10, 5, 0); seam(11, 5, 0); seam(12, 5, 0); seam(20, 5, 0); seam(21, 5, 0); peg(3, 0, 4, 4)
            partner(0, 0, 1); partner(0, 1, 1); partner(0, 2, 1); partner(0, 4, 1); partner(0, 5, 1); partner(0, 6, 1); partner(0, 7, 1) = 5
            sink(0, 3, 0); dig(0, 3, 1); dig(0, 3, 2); dig(0, 3, 10); dig(0, 3, 11); dig(0, 3, 12); dig(0, 3, 20); dig(0, 3, 21); divide(0) = 8
            ofStone(0, 2) = 3; ofStone(1, 2) = 3; ofStone(2, 2) = 3; ofStone(3, 2) = 0; ofStone(4, 2) = 1; ofStone(5, 2) = 2; ofStone(6, 2) = 4; ofStone(7, 2) = 5; ofPerson(6, 2) = 0; ofPerson(3, 2) = 3
            """);
    }

    private static void thisDivision() {
        Script.run("less 12 times the carats that went to that one by this division so far", """
            seam(0, 50, 0); seam(1, 7, 0); seam(2, 7, 0); peg(2, 0, 1, 4); partner(0, 4, 6); sink(0, 2, 0); divide(0) = 1; ofStone(0, 2) = 2; dig(0, 2, 1); divide(0) = 1; ofStone(1, 2) = 2
            dig(0, 2, 2); divide(0) = 1; ofStone(2, 2) = 2; divide(0) ! state; ofPerson(4, 2) = 0
            """);
        Script.run("the carats of the whole PARCEL: none of another one's, of PERSONS' or ratted ones", """
            seam(0, 10, 0); seam(1, 500, 0); seam(10, 4, 0); seam(11, 4, 0); seam(20, 900, 0); peg(0, 0, 2, 4); peg(1, 20, 1, 1); partner(0, 1, 5) = 7; sink(1, 1, 20); sink(0, 0, 0); rat(5, 1) = 500
            dig(0, 0, 10); dig(0, 0, 11); divide(0) = 3; ofStone(1, 2) = 0; ofStone(3, 2) = 1; ofStone(4, 2) = 1; ofStone(0, 2) = -1; ofStone(2, 2) = 5; ofClaim(1, 5) = 1
            """);
        Script.run("A PARCEL is divided: of none there is nothing to divide", """
            peg(0, 0, 1, 4); divide(0) ! state; sink(0, 0, 0); divide(0) ! state; seam(1, 3, 0); seam(2, 3, 0); rat(1, 1) = 3; divide(0) ! state; dig(0, 0, 2); divide(0) = 1; divide(0) ! state; ofClaim(0, 5) = 0
            """);
    }

    private static void tenth() {
        int[] carats = {1, 9, 10, 11, 19, 20, 99, 100, 101, 990, 999};
        for (int first : carats) {
            Script script = new Script("it loses a tenth of its carats, rounded down: " + first);
            script.play("seam(0, " + first + ", 9); peg(0, 0, 1, 1); sink(0, 0, 0); divide(0)");
            int left = first;
            for (int rubs = 1; rubs <= 12; rubs++) {
                left -= left / 10;
                script.play("rub(0) = " + left + "; ofStone(0, 0) = " + left + "; ofStone(0, 6) = " + rubs + "; carats(5) = " + (first - left));
                script.play("carats(3) = " + left + "; carats(0) = " + first);
            }
            script.play("rub(0) ! state; ofStone(0, 0) = " + left + "; ofStone(0, 6) = 12");
        }
    }

    private static void shine() {
        for (int depth = 0; depth <= 9; depth++) {
            Script script = new Script("RAW, as long as it was rubbed fewer times than its depth, DEAD if more than 2 times more: " + depth);
            script.play("seam(0, 9, " + depth + "); peg(0, 0, 1, 1); sink(0, 0, 0); divide(0)");
            for (int rubs = 0; rubs <= depth + 3; rubs++) {
                int kind = rubs < depth ? 0 : rubs <= depth + 2 ? 1 : 2;
                int value = kind == 0 ? 18 : kind == 1 ? 90 : 0;
                script.play("ofStone(0, 1) = " + kind + "; ofStone(0, 4) = " + value + (kind < 2 ? "; rub(0) = 9" : "; rub(0) ! state"));
            }
            script.play("ofStone(0, 0) = 9; ofStone(0, 6) = " + (depth + 3) + "; carats(3) = 9; carats(5) = 0");
        }
        Script.run("A STONE of a PERSON can be rubbed: not in a PARCEL", "seam(0, 50, 1); peg(5, 0, 1, 1); sink(0, 5, 0); rub(0) ! state; ofStone(0, 0) = 50; ofStone(0, 6) = 0; divide(0); rub(0) = 45; ofStone(0, 6) = 1");
    }

    private static void bids() {
        new Script("There are the BUYERS 0 to 4, each with a purse, 20000 at first").play("purse(0) = 20000; purse(1) = 20000; purse(2) = 20000; purse(3) = 20000; purse(4) = 20000; purse(5) ! bounds; purse(-1) ! bounds");
        new Script("A BUYER bids for a STONE of a PERSON, once, whatever the purse").play(TWO).play("""
            bid(0, 0, 99999) = 1; bid(0, 0, 1) ! state; bid(0, 0, 99999) ! state; bid(1, 0, 1) = 2; bid(2, 0, 20001) = 3; bid(3, 0, 99999) = 4; bid(4, 0, 1) = 5; bid(4, 0, 2) ! state; bid(0, 1, 20000) = 1
            bid(0, 0, 100000) ! argument; purse(0) = 20000; ofPerson(5, 0) = 0; ofStone(0, 5) = -1
            """);
        new Script("once, whatever the purse: of nothing, too").play(TWO).play("bid(3, 0, 20000); sell(0) = 3; purse(3) = 0; bid(3, 1, 1) = 1; bid(3, 1, 1) ! state; sell(1) ! state; bid(0, 1, 1) = 2; sell(1) = 0");
        Script.run("for a STONE of a PERSON", "seam(0, 50, 1); peg(5, 0, 1, 1); sink(0, 5, 0); bid(0, 0, 9) ! state; divide(0); bid(0, 0, 9) = 1; sell(0) = 0; bid(1, 0, 9) ! state; bid(0, 0, 9) ! state");
    }

    private static void sold() {
        new Script("It is sold to whom bid the most of those whose purses have as much now").play(TWO).play("""
            sell(0) ! state; bid(0, 0, 20001) = 1; sell(0) ! state; bid(1, 0, 20000) = 2; bid(2, 0, 19999) = 3; sell(0) = 1; purse(1) = 0; purse(0) = 20000; purse(2) = 20000; ofPerson(5, 0) = 20000
            bid(1, 1, 1) = 1; sell(1) ! state; bid(0, 1, 1) = 2; sell(1) = 0; purse(0) = 19999; ofPerson(5, 0) = 20001
            """);
        new Script("whose purses have as much now: not as they bid").play(TWO).play("""
            bid(2, 0, 12000); bid(2, 1, 8001); bid(3, 1, 3); sell(0) = 2; purse(2) = 8000; sell(1) = 3; purse(2) = 8000; purse(3) = 19997; ofPerson(5, 0) = 12003
            """);
        new Script("as much now: just as much").play(TWO).play("bid(2, 0, 12000); bid(2, 1, 8000); bid(3, 1, 7999); sell(0) = 2; sell(1) = 2; purse(2) = 0; purse(3) = 20000; ofPerson(5, 0) = 20000");
        new Script("the most: it need not be the first or the last who bid").play(TWO).play("bid(4, 0, 5); bid(1, 0, 7); bid(0, 0, 6); sell(0) = 1; bid(0, 1, 1); bid(4, 1, 2); sell(1) = 4; purse(0) = 20000");
        Script.run("the PERSON gets the money", """
            seam(0, 10, 0); seam(1, 9, 0); seam(2, 8, 0); peg(0, 0, 1, 4); partner(0, 7, 6); sink(0, 0, 0); dig(0, 0, 1); rat(3, 2) = 8; divide(0) = 2; bid(0, 0, 100); bid(0, 1, 20); bid(0, 2, 3); sell(0); sell(1); sell(2) = 0
            ofPerson(0, 0) = 100; ofPerson(7, 0) = 20; ofPerson(3, 0) = 3; purse(0) = 19877; ofPerson(1, 0) = 0
            """);
    }

    /** All rows of three BUYERS who bid the same. */
    private static void firstWhoBid() {
        for (int first = 0; first < 5; first++) {
            for (int second = 0; second < 5; second++) {
                for (int third = 0; third < 5; third++) {
                    if (first != second && second != third && first != third) {
                        Script script = new Script("of several to the first one who bid").play(TWO);
                        script.play("bid(" + first + ", 0, 70) = 1; bid(" + second + ", 0, 70) = 2; bid(" + third + ", 0, 70) = 3; sell(0) = " + first);
                        script.play("bid(" + third + ", 1, 69) = 1; bid(" + second + ", 1, 70) = 2; bid(" + first + ", 1, 70) = 3; sell(1) = " + second);
                    }
                }
            }
        }
        new Script("of several to the first one who bid: of those whose purses have as much").play(TWO).play("bid(1, 1, 5000); sell(1) = 1; bid(1, 0, 15001) = 1; bid(3, 0, 15001) = 2; bid(0, 0, 15001) = 3; sell(0) = 3");
    }

    private static void staysSold() {
        new Script("Bids stay").play(TWO).play("bid(1, 0, 50) = 1; rub(0) = 90; pass(99); bid(1, 0, 50) ! state; bid(1, 1, 60); sell(1) = 1; bid(2, 0, 40) = 2; 3 times rub(0); ofStone(0, 1) = 2; sell(0) = 1; purse(1) = 19890");
        new Script("a STONE that is sold changes no more").play(TWO).play("""
            rub(0) = 90; bid(1, 0, 50); sell(0) = 1; rub(0) ! state; bid(2, 0, 99) ! state; sell(0) ! state; divide(0) ! state; ofStone(0, 0) = 90; ofStone(0, 1) = 1; ofStone(0, 2) = 5; ofStone(0, 3) = 0; ofStone(0, 4) = 900; ofStone(0, 5) = 1
            ofStone(0, 6) = 1; ofStone(0, 7) = 0; purse(1) = 19950; purse(2) = 20000; ofPerson(5, 0) = 50; ofPerson(5, 2) = 1; carats(4) = 90; carats(3) = 40; carats(5) = 10
            """);
    }

    private static void books() {
        Script.run("Carats close from wall to paper: 0 is all the others together", """
            seam(0, 999, 3); seam(1, 101, 0); seam(2, 55, 0); seam(99, 7, 0); carats(0) = 1162; carats(1) = 1162; peg(0, 0, 1, 4); sink(0, 0, 0); carats(1) = 163; carats(2) = 999; carats(3) = 0
            rat(1, 1) = 101; carats(1) = 62; carats(2) = 999; carats(3) = 101; divide(0); carats(2) = 0; carats(3) = 1100; rub(0) = 900; carats(3) = 1001; carats(5) = 99; dig(0, 0, 2); carats(2) = 55; carats(1) = 7
            bid(0, 0, 9); sell(0); carats(3) = 101; carats(4) = 900; rub(1) = 91; carats(5) = 109; carats(3) = 91; carats(4) = 900; carats(2) = 55; carats(1) = 7; carats(0) = 1162
            bid(0, 1, 9); sell(1); carats(3) = 0; carats(4) = 991; carats(5) = 109; seam(98, 1, 1); carats(0) = 1163; carats(1) = 8
            """);
    }

    private static void both(String title, String lines) {
        Script.run(title, lines);
        Script.run("anew: " + title, lines.replace("plan(", "planAnew("));
    }

    private static void plans() {
        both("by so many digs, or fewer, one behind the other now", """
            seam(1, 1, 0); seam(11, 2, 0); seam(12, 4, 0); seam(22, 8, 0); peg(0, 0, 3, 3); plan(0, 3) = 0; sink(0, 0, 0); plan(0, 0) = 0; plan(0, 1) = 1; plan(0, 2) = 3; plan(0, 3) = 7; prop(0, 0, 0); plan(0, 3) = 7
            dig(0, 0, 1); plan(0, 3) = 14; plan(0, 2) = 6; plan(0, 1) = 2; plan(0, 0) = 0
            """);
        both("or fewer: 3 where there is but one CELL", "seam(1, 5, 0); peg(0, 0, 1, 2); sink(0, 0, 0); plan(0, 0) = 0; plan(0, 1) = 5; plan(0, 2) = 5; plan(0, 3) = 5; dig(0, 0, 1); plan(0, 3) = 0");
        both("could find: of CELLS without carats nothing", "peg(0, 0, 4, 4); sink(0, 0, 11); plan(0, 3) = 0; seam(33, 9, 0); plan(0, 3) = 0; seam(22, 9, 0); plan(0, 1) = 0; plan(0, 2) = 9");
        both("without shafts", "seam(0, 9, 0); seam(33, 9, 0); peg(0, 0, 4, 4); plan(0, 3) = 0; sink(0, 0, 1); plan(0, 1) = 9; plan(0, 3) = 9");
        both("no dig making a FALL: the third one in a row, and the fourth", """
            seam(1, 1, 0); seam(2, 1, 0); seam(3, 1, 0); peg(0, 0, 1, 4); sink(0, 0, 0); plan(0, 2) = 2; plan(0, 3) = 2; dig(0, 0, 1); plan(0, 3) = 1; dig(0, 0, 2); plan(0, 3) = 0; prop(0, 0, 2); plan(0, 3) = 1
            """);
        both("no dig making a FALL: in a column", """
            seam(10, 1, 0); seam(20, 1, 0); seam(30, 1, 0); peg(0, 0, 4, 1); sink(0, 0, 0); plan(0, 2) = 2; plan(0, 3) = 2; dig(0, 0, 10); plan(0, 3) = 1; dig(0, 0, 20); plan(0, 3) = 0; prop(0, 0, 10); plan(0, 3) = 1
            """);
        both("no dig making a FALL: between what is OPEN on both sides", """
            seam(2, 9, 0); peg(0, 0, 1, 4); sink(0, 0, 0); dig(0, 0, 1); sink(0, 0, 3); plan(0, 1) = 0; plan(0, 3) = 0; prop(0, 0, 1); plan(0, 1) = 9
            """);
        both("whoever is BARRED, and whatever traps lie there", """
            seam(1, 7, 0); seam(10, 5, 0); peg(0, 0, 2, 2); peg(1, 20, 1, 2); sink(0, 0, 0); sink(1, 1, 20); trap(0, 0, 1); trap(0, 0, 10); trap(1, 1, 21); rat(0, 21) = -1; dig(0, 0, 1) ! state; plan(0, 1) = 7; plan(0, 2) = 12; plan(0, 3) = 12
            ofCell(1, 2) = 1; ofCell(10, 2) = 1; ofPerson(0, 1) = 168
            """);
    }

    private static void planEdges() {
        both("of a CLAIM: what it HOLDS, as it is LIVE", """
            seam(1, 7, 0); seam(2, 9, 0); peg(0, 0, 1, 2); peg(1, 0, 1, 4); sink(0, 0, 0); plan(0, 3) = 7; plan(1, 3) = 0; dig(0, 0, 1); plan(0, 3) = 0; plan(1, 3) = 9; pass(71); plan(1, 1) = 9; pass(1); plan(1, 1) = 0
            peg(2, 2, 1, 1); plan(2, 0) = 0; plan(2, 1) = 9; plan(0, 1) = 0
            """);
        both("the dearest CELLS there are", """
            seam(1, 999, 0); seam(10, 999, 0); seam(11, 999, 0); seam(22, 999, 0); peg(0, 0, 4, 4); sink(0, 0, 0); plan(0, 1) = 999; plan(0, 2) = 1998; plan(0, 3) = 2997
            """);
        both("a way that no other one spoils", """
            seam(1, 10, 0); seam(2, 10, 0); seam(11, 1, 0); seam(21, 100, 0); seam(10, 9, 0); peg(0, 0, 4, 4); sink(0, 0, 0); plan(0, 1) = 10; plan(0, 2) = 20; plan(0, 3) = 111; ofCell(1, 0) = 0; ofCell(21, 0) = 0; carats(1) = 130
            """);
        both("all sixteen CELLS, each beside what is OPEN", """
            peg(0, 33, 4, 4); peg(1, 23, 1, 4); peg(2, 73, 1, 4); peg(3, 32, 4, 1); peg(4, 37, 4, 1); sink(1, 1, 23); prop(1, 1, 23); dig(1, 1, 24); prop(1, 1, 24); dig(1, 1, 25); prop(1, 1, 25); dig(1, 1, 26); prop(1, 1, 26)
            sink(2, 2, 73); prop(2, 2, 73); dig(2, 2, 74); prop(2, 2, 74); dig(2, 2, 75); prop(2, 2, 75); dig(2, 2, 76); prop(2, 2, 76); seam(33, 1, 0); seam(34, 2, 0); seam(35, 4, 0); seam(36, 8, 0); seam(43, 900, 0); seam(54, 800, 0)
            seam(55, 700, 0); seam(63, 1, 0); seam(64, 16, 0); seam(65, 32, 0); seam(66, 64, 0); plan(0, 1) = 64; plan(0, 2) = 901; plan(0, 3) = 1532
            """);
    }

    private static void lastCall() {
        Script script = new Script("at most 512 calls: the last one still holds").play("seam(1, 77, 2); peg(0, 0, 1, 4); sink(0, 0, 0)");
        script.play("507 times ofCell(1, 0) = 0; dig(0, 0, 1) = 77; ofStone(0, 0) = 77");
        Script ends = new Script("at most 512 calls: as many as there are STONES, at the end").play(GroundTermsTest.WHOLE_GROUND);
        int found = 0;
        for (int cell = 0; cell < 100; cell++) {
            ends.play("seam(" + cell + ", 5, 1)");
        }
        ends.play("sink(0, 0, 0) = 5");
        for (int cell = 1; cell < 100; cell++) {
            int row = cell / 10;
            int next = row * 10 + (row % 2 == 0 ? cell % 10 : 9 - cell % 10);
            ends.play("prop(" + GroundTermsTest.holder(before(cell)) + ", 0, " + before(cell) + ")");
            ends.play("dig(" + GroundTermsTest.holder(next) + ", 0, " + next + ") = 5; ofStone(" + cell + ", 7) = " + next);
            found++;
        }
        ends.play("ofStone(" + found + ", 0) = 5; ofStone(100, 0) ! bounds; carats(1) = 0; carats(2) = 500; divide(0) = 16; carats(3) = 80");
    }

    /** The CELL ahead of the one that is dug as so many have been: to and fro, row by row. */
    private static int before(int cell) {
        int last = cell - 1;
        int row = last / 10;
        return row * 10 + (row % 2 == 0 ? last % 10 : 9 - last % 10);
    }

    private static void constants() {
        Script.check("NONE", OpalField.NONE == -1, "is not -1");
        Script.check("SOLID, OPEN, RUBBLE", OpalField.SOLID == 0 && OpalField.OPEN == 1 && OpalField.RUBBLE == 2, "are not 0, 1, 2");
        Script.check("RAW, SHINES, DEAD", OpalField.RAW == 0 && OpalField.SHINES == 1 && OpalField.DEAD == 2, "are not 0, 1, 2");
        OpalField used = new OpalField();
        OpalField other = new OpalField();
        used.seam(0, 9, 0);
        used.pass(5);
        used.peg(0, 0, 1, 1);
        used.sink(0, 0, 0);
        Script.check("a new object", other.carats(0) == 0 && other.hour() == 0 && other.ofCell(0, 0) == 0 && other.ofCell(0, 3) == -1,
                "is not as new, as another one was used");
        Script.check("the first object", used.carats(2) == 9 && used.hour() == 5 && used.ofCell(0, 0) == 1, "has lost what was told");
    }
}
