/** Each promise by its number: ordinary inputs, the edges that the document names, wrong inputs. */
public final class PromisesTest {
    private static final int NONE = NightStones.NONE, BAD = NightStones.BAD;
    private static final int STATE = NightStones.STATE, FULL = NightStones.FULL;
    private static final int NULL_ROW = -1000011, PLACE = -1000012, KIND = -1000013, SIZE = -1000014, STORE = -1000015;
    private static final String LAW = "law 100 3 10 2;";
    private static final String FIVE_KINDS = "law 40 7 20 9;stone 0 0;stone 5 5;stone 10 12;stone 20 20;stone 33 30;"
        + "mover inn 1 1 2;mover carter 2 0 1;mover parish 3 1 3;mover thief 4 1 4;mover priest 0 1 1;";
    private static final int[] WRONG_ROWS = {-1, 8, Integer.MIN_VALUE, Integer.MAX_VALUE};
    private static final int[] WRONG_CHOICES = {-1, 2, Integer.MIN_VALUE, Integer.MAX_VALUE};

    private static final Due due = new Due("PromisesTest");

    private PromisesTest() {
    }

    public static void main(String[] args) {
        newObject();
        rows();
        items();
        copies();
        drops();
        feeds();
        lawsAndTokens();
        stonesAndMoversTold();
        roadsReadAnew();
        faults();
        nights();
        nightsBySort();
        proofs();
        undoing();
        stonesAndCarries();
        times();
        timesFromRows();
        timesForgotten();
        ends();
        widest();
        rests();
        moved();
        who();
        dares();
        bests();
        images();
        kinds();
        asks();
        traces();
        counts();
        statuses();
        due.close();
    }

    private static void newObject() {
        NightStones x = new NightStones();
        for (int what = 0; what <= 6; what++) {
            due.is("1: count " + what, x.count(what), 0);
        }
        due.is("1: night", x.night(), STATE);
        due.is("1: stone", x.stone(0, 0), BAD);
        due.is("1: status", x.status(), 0);
        due.is("1: fault", x.fault(), 0);
        due.is("1: NONE", NONE, -1000000);
        due.is("1: BAD", BAD, -1000001);
        due.is("1: STATE", STATE, -1000002);
        due.is("1: FULL", FULL, -1000003);
    }

    private static void rows() {
        NightStones x = new NightStones();
        due.is("2: none", x.row(0, 0, 0), 0);
        due.is("2: most", x.row(7, 2, 40), 40);
        due.is("2: there", x.count(0), 2);
        due.is("2: last", x.set(7, 39, 5), 5);
        due.is("2: in place of", x.row(7, 2, 40), 40);
        due.is("2: at first 0", x.copy(7, 39, 7, 0, 1), 1);
        due.is("2: shorter", x.row(7, 1, 3), 3);
        due.is("2: beyond", x.set(7, 3, 1), PLACE);
        for (int row : WRONG_ROWS) {
            due.is("2: row " + row, x.row(row, 0, 1), BAD);
        }
        for (int lane : new int[] {-1, 3, Integer.MIN_VALUE, Integer.MAX_VALUE}) {
            due.is("2: lane " + lane, x.row(0, lane, 1), BAD);
        }
        due.is("2: above 40", x.row(0, 0, 41), BAD);
        due.is("2: far above 40", x.row(0, 0, Integer.MAX_VALUE), BAD);
        due.is("2: fewer than none", x.row(0, 0, -1), SIZE);
        due.is("2: far fewer", x.row(0, 0, Integer.MIN_VALUE), SIZE);
        due.is("2: BAD ahead of SIZE", x.row(8, 0, -1), BAD);
        due.is("2: lane ahead of SIZE", x.row(0, 3, -1), BAD);
        due.is("2: what is found changes nothing", x.drop(0), 0);
        due.is("2: what is found makes none", x.row(5, 0, -1), SIZE);
        due.is("2: none made", x.drop(5), NULL_ROW);
        zeroesOfANewRow();
    }

    private static void zeroesOfANewRow() {
        NightStones x = Tape.with(LAW + "stone 0 0;stone 1 1;");
        x.row(0, 2, 8);
        for (int i = 0; i < 8; i++) {
            x.set(0, i, 1 + i % 4 / 2);
        }
        x.row(0, 2, 8);
        x.set(0, 1, 1);
        x.set(0, 2, 1);
        x.set(0, 5, 1);
        x.set(0, 6, 2);
        due.is("2: all 0 anew", x.times(0, 0, 2), 2);
        due.is("2: hours 0 at pace 1 are no yard", x.ends(0, 1, 1), NONE);
    }

    private static void items() {
        NightStones x = new NightStones();
        x.row(0, 0, 3);
        x.row(1, 1, 3);
        x.row(2, 2, 3);
        due.is("3: byte", x.set(0, 0, 127), 127);
        due.is("3: byte wraps", x.set(0, 0, 128), -128);
        due.is("3: byte of many", x.set(0, 2, 0x12345), 0x45);
        due.is("3: byte below", x.set(0, 1, -129), 127);
        due.is("3: short", x.set(1, 0, 32767), 32767);
        due.is("3: short wraps", x.set(1, 0, 32768), -32768);
        due.is("3: short of many", x.set(1, 1, 0x1ffff), -1);
        due.is("3: int", x.set(2, 0, Integer.MIN_VALUE), Integer.MIN_VALUE);
        due.is("3: int", x.set(2, 2, Integer.MAX_VALUE), Integer.MAX_VALUE);
        for (int row : WRONG_ROWS) {
            due.is("3: row " + row, x.set(row, 0, 1), BAD);
        }
        due.is("3: missing", x.set(3, 0, 1), NULL_ROW);
        due.is("3: missing ahead of PLACE", x.set(3, -1, 1), NULL_ROW);
        for (int i : new int[] {-1, 3, 40, Integer.MIN_VALUE, Integer.MAX_VALUE}) {
            due.is("3: place " + i, x.set(0, i, 1), PLACE);
        }
        due.is("3: looks like a finding", x.set(2, 0, NULL_ROW), NULL_ROW);
        due.is("3: but is none", x.status(), 0);
        x.set(3, 0, 1);
        due.is("3: looks like BAD", x.set(2, 0, BAD), BAD);
        due.is("3: but was none", x.status(), 0);
    }

    private static void copies() {
        NightStones x = Tape.with(LAW + "stone 0 0;stone 1 1;stone 2 2;");
        x.row(0, 2, 8);
        x.row(1, 2, 5);
        x.row(2, 1, 5);
        due.is("4: all", x.copy(0, 0, 1, 0, 5), 5);
        due.is("4: to the ends", x.copy(0, 8, 1, 5, 0), 0);
        due.is("4: on itself", x.copy(0, 0, 0, 4, 4), 4);
        for (int row : WRONG_ROWS) {
            due.is("4: from " + row, x.copy(row, 0, 1, 0, 1), BAD);
            due.is("4: to " + row, x.copy(1, 0, row, 0, 1), BAD);
        }
        due.is("4: BAD ahead of NULL", x.copy(7, 0, 8, 0, 1), BAD);
        due.is("4: from a missing", x.copy(7, 0, 0, 0, 1), NULL_ROW);
        due.is("4: to a missing", x.copy(0, 0, 7, 0, 1), NULL_ROW);
        due.is("4: lanes", x.copy(0, 0, 2, 0, 1), STORE);
        due.is("4: STORE ahead of PLACE", x.copy(0, -1, 2, 0, 1), STORE);
        due.is("4: n below 0", x.copy(0, 0, 1, 0, -1), PLACE);
        due.is("4: i below 0", x.copy(0, -1, 1, 0, 1), PLACE);
        due.is("4: j below 0", x.copy(0, 0, 1, -1, 1), PLACE);
        due.is("4: beyond an end of a", x.copy(0, 4, 1, 0, 5), PLACE);
        due.is("4: beyond an end of b", x.copy(0, 0, 1, 1, 5), PLACE);
        due.is("4: none beyond a", x.copy(0, 9, 1, 0, 0), PLACE);
        due.is("4: none beyond b", x.copy(0, 0, 1, 6, 0), PLACE);
        due.is("4: far", x.copy(0, Integer.MAX_VALUE, 1, 0, Integer.MAX_VALUE), PLACE);
        due.is("4: far n", x.copy(0, 1, 1, 1, Integer.MAX_VALUE), PLACE);
        overlapping(x);
    }

    // As they were ahead: a copy one on within one ROW is no run of the first ITEM.
    private static void overlapping(NightStones x) {
        x.row(3, 2, 5);
        int[] time = {1, 0, 1, 7, 3};
        for (int i = 0; i < 5; i++) {
            x.set(3, i, time[i]);
        }
        due.is("4: back", x.copy(3, 1, 3, 0, 4), 4);
        due.is("4: is a time", x.times(3, 0, 1), 1);
        due.is("4: least", x.ends(0, 1, 0), 21);
        due.is("4: most", x.ends(0, 1, 1), 27);
        x.forget();
        due.is("4: on", x.copy(3, 0, 3, 1, 4), 4);
        due.is("4: is that time", x.times(3, 1, 1), 1);
        due.is("4: its least", x.ends(0, 1, 0), 21);
        due.is("4: its most", x.ends(0, 1, 1), 27);
    }

    private static void drops() {
        NightStones x = new NightStones();
        x.row(4, 1, 9);
        due.is("5: had", x.drop(4), 9);
        due.is("5: missing", x.drop(4), NULL_ROW);
        due.is("5: gone", x.count(0), 0);
        due.is("5: no place", x.set(4, 0, 0), NULL_ROW);
        for (int row : WRONG_ROWS) {
            due.is("5: row " + row, x.drop(row), BAD);
        }
    }

    private static void feeds() {
        NightStones x = new NightStones();
        for (int n : new int[] {0, -1, 9, Integer.MIN_VALUE, Integer.MAX_VALUE}) {
            due.is("6: n " + n, x.feed(0, n), BAD);
        }
        due.is("6: lowest bytes", x.feed(0x11223344556c6177L, 3), 3);
        due.is("6: highest first", x.feed(Tape.packed(" 10 0 0;"), 8), 11);
        due.is("6: no law", x.road(), -1000110);
        due.is("6: empty then", x.count(6), 0);
        for (int k = 1; k <= 49; k++) {
            due.is("6: eight", x.feed(0x2020202020202020L, 8), 8 * k);
        }
        due.is("6: seven", x.feed(0, 7), 399);
        due.is("6: none comes", x.feed(0, 2), FULL);
        due.is("6: none came", x.count(6), 399);
        due.is("6: BAD ahead of FULL", x.feed(0, 9), BAD);
        due.is("6: the last", x.feed(0, 1), 400);
        due.is("6: one more", x.feed(0, 1), FULL);
        due.is("6: a byte that is no token", x.road(), -1000100 - 392);
        due.is("6: a byte above 127", Tape.road(x, "\u00e1"), -1000100);
    }

    private static void tells(String text, int answer, int fault) {
        NightStones x = new NightStones();
        due.is("7: " + text, Tape.road(x, text), answer);
        due.is("8: " + text, x.fault(), fault);
        due.is("7: empty then: " + text, x.count(6), 0);
    }

    private static void lawsAndTokens() {
        tells("", -1000100, 1);
        tells("   ", -1000103, 1);
        tells("law", -1000103, 1);
        tells("law \n ", -1000106, 1);
        tells("laws 10 0 0 0;", -1000100, 1);
        tells("la 10 0 0 0;", -1000100, 1);
        tells("Law 10 0 0 0;", -1000100, 1);
        tells("zaw 10 0 0 0;", -1000100, 1);
        tells("10 0 0 0;", -1000100, 1);
        tells("alaw 10 0 0 0;", -1000100, 1);
        tells("law 10 0 0 0;", 0, 0);
        tells("law 200 20 100 99;", 0, 0);
        tells(" \n law\n10 \n0 0\n0\n;\n ", 0, 0);
        tells("law010 00 000 0;", 0, 0);
        tells("law 9 0 0 0;", -1000104, 2);
        tells("law 201 0 0 0;", -1000104, 2);
        tells("law 10 21 0 0;", -1000107, 2);
        tells("law 10 0 101 0;", -1000109, 2);
        tells("law 10 0 0 100;", -1000111, 2);
        tells("law 10 0 0;", -1000110, 1);
        tells("law 10 0 0 0 0;", -1000113, 1);
        tells("law 10 0 0 x;", -1000111, 1);
        tells("law 10 0 0 0;;", -1000113, 1);
        tells("law 10 0 0 0,", -1000112, 1);
        tells("law 10 0 0 0", -1000112, 1);
        tells("law 10 0 0 0  ", -1000114, 1);
        tells("law 0010 0 0 0;", -1000104, 1);
        tells("law 99999999999999999999 0 0 0;", -1000104, 1);
        tells("law 10\t0 0 0;", -1000106, 1);
        tells("law 10 0 0 0;law 10 0 0 0;", -1000113, 1);
        tells("law 9 0 0 1234;", -1000104, 2);
        tells("law 10 0 0 0;1234", -1000113, 1);
        tells("lawstone", -1000100, 1);
    }

    private static void stonesAndMoversTold() {
        tells(LAW + "stone 0 0;stone 200 100;", 2, 0);
        tells(LAW + "stone0 0;stone0 1;", 2, 0);
        tells(LAW + "stone 201 0;", -1000121, 2);
        tells(LAW + "stone 0 101;", -1000123, 2);
        tells(LAW + "stone 0 5;stone 0 5;", -1000133, 2);
        tells(LAW + "stone 0 5;stone 0 4;", -1000133, 2);
        tells(LAW + "stone 0 100;stone 0 101;", -1000135, 2);
        tells(LAW + "stone 0;", -1000122, 1);
        tells(LAW + "stones 0 0;", -1000115, 1);
        tells(LAW + "ston 0 0;", -1000115, 1);
        tells(LAW + "mover inn 0 0 1;", -1000125, 2);
        tells(LAW + "mover 0;", -1000121, 1);
        String one = LAW + "stone 0 0;";
        tells(one + "mover inn 0 0 1;", 1, 0);
        tells(one + "mover carter 0 1 5;", 1, 0);
        tells(one + "mover parish 0 1 5;mover thief 0 0 5;mover priest 0 0 5;", 1, 0);
        tells(one + "mover inn 1 0 1;", -1000135, 2);
        tells(one + "mover inn 0 2 1;", -1000137, 2);
        tells(one + "mover inn 0 0 0;", -1000139, 2);
        tells(one + "mover inn 0 0 6;", -1000139, 2);
        tells(one + "mover dog 0 0 1;", -1000131, 1);
        tells(one + "mover mover 0 0 1;", -1000131, 1);
        tells(one + "mover 0 0 1;", -1000131, 1);
        tells(one + "moverz inn 0 0 1;", -1000125, 1);
        tells(one + "mover inn 0 0 1;mover priests 0 0 1;", -1000147, 1);
        tells(one + "mover inn 0 0 1;stone 0 1;", -1000141, 1);
        tells(one + "mover inn 0 0 1", -1000140, 1);
        tells(one + "mover", -1000130, 1);
        roomForStonesAndMovers();
    }

    private static void roomForStonesAndMovers() {
        String six = LAW + "stone 0 0;stone 0 1;stone 0 2;stone 0 3;stone 0 4;stone 0 5;";
        tells(six, 6, 0);
        tells(six + "stone 0 6;", -1000175, 3);
        tells(six + "stone", -1000175, 3);
        tells(six + " stone ?", -1000176, 3);
        String five = six + "mover inn 5 0 1;mover inn 0 0 1;mover inn 0 0 1;mover inn 0 0 1;mover inn 0 0 1;";
        tells(five, 6, 0);
        tells(five + "mover inn 0 0 1;", -1000255, 3);
        tells(five + "stone", -1000255, 1);
        tells(six + "mover inn 6 0 1;", -1000185, 2);
    }

    private static void roadsReadAnew() {
        NightStones x = Tape.with(FIVE_KINDS);
        x.night();
        x.time(0, 1, 1, 1);
        x.image(0);
        x.row(1, 1, 4);
        due.is("7: a fault", Tape.road(x, "law 10 0 0 0;stone 0 0;mover"), -1000128);
        due.is("7: leaves the stones", x.count(1), 5);
        due.is("7: leaves the movers", x.count(2), 5);
        due.is("7: leaves the night", x.count(3), 1);
        due.is("7: leaves the acts", x.count(4), 1);
        due.is("7: leaves the times", x.count(5), 1);
        due.is("7: leaves where they stand", x.stone(1, 1), 7);
        due.is("7: leaves the fee", x.carry(0, 1, 0), 35);
        due.is("7: read", Tape.road(x, "law 50 1 1 1;stone 3 4;"), 1);
        due.is("7: stones", x.count(1), 1);
        due.is("7: movers", x.count(2), 0);
        due.is("7: night 0", x.count(3), 0);
        due.is("7: no acts", x.count(4), 0);
        due.is("7: nothing to undo", x.undo(), STATE);
        due.is("7: no times", x.count(5), 0);
        due.is("7: rows stay", x.count(0), 1);
        due.is("7: says", x.stone(0, 0), 3);
        due.is("7: at", x.stone(0, 1), 4);
        due.is("7: home", x.stone(0, 2), 4);
        due.is("7: images stay", x.restore(0), 1);
        due.is("7: as kept", x.count(1), 5);
    }

    private static void faults() {
        NightStones x = new NightStones();
        Tape.road(x, "law 9");
        due.is("8: latest", x.fault(), 2);
        Tape.road(x, "law 10 0 0 0;");
        due.is("8: stays", x.fault(), 2);
        due.is("8: the end, by this tape alone", Tape.road(x, "law"), -1000103);
        due.is("8: the next", x.fault(), 1);
        Tape.road(x, LAW + "stone 0 0;stone 0 1;stone 0 2;stone 0 3;stone 0 4;stone 0 5;stone");
        due.is("8: no room", x.fault(), 3);
    }

    private static void stand(String what, NightStones x, int... at) {
        for (int stone = 0; stone < at.length; stone++) {
            due.is(what + ": stone " + stone, x.stone(stone, 1), at[stone]);
        }
    }

    private static void nights() {
        NightStones x = new NightStones();
        due.is("9: no road", x.night(), STATE);
        Tape.road(x, "law 10 1 1 1;stone 0 2;stone 0 4;stone 0 8;mover inn 0 1 5;mover inn 1 0 5;mover inn 2 1 5;");
        due.is("9: onto no other", x.night(), 5);
        stand("9", x, 3, 4, 10);
        due.is("9: to the end", x.night(), 0);
        due.is("9: gone", x.count(3), 2);
        stand("9", x, 3, 4, 10);
        Tape.road(x, "law 30 1 1 1;stone 0 10;mover inn 0 1 4;mover inn 0 0 4;");
        due.is("9: there and back", x.night(), 0);
        Tape.road(x, "law 30 1 1 1;stone 0 10;mover inn 0 1 4;mover inn 0 0 3;");
        due.is("9: one between them", x.night(), 1);
        stand("9", x, 11);
        Tape.road(x, "law 10 1 1 1;stone 0 3;stone 0 4;mover inn 0 0 5;mover inn 1 0 5;");
        due.is("9: to 0, in order", x.night(), 3);
        stand("9", x, 0, 1);
        Tape.road(x, "law 10 1 1 1;stone 0 3;stone 0 4;mover inn 1 0 5;mover inn 0 0 5;");
        due.is("9: in order, the other first", x.night(), 1);
        stand("9", x, 0, 4);
        Tape.road(x, "law 10 1 1 1;");
        due.is("9: of none", x.night(), 0);
    }

    private static void nightsBySort() {
        NightStones x = Tape.with("law 99 1 1 1;stone 0 50;mover carter 0 1 5;");
        x.night();
        stand("9: carter", x, 60);
        Tape.road(x, "law 99 1 1 1;stone 0 50;mover parish 0 1 5;");
        due.is("9: parish on 0", x.night(), 1);
        due.is("9: parish on 1", x.night(), 0);
        due.is("9: parish on 2", x.night(), 1);
        stand("9: parish", x, 60);
        Tape.road(x, "law 99 1 1 1;stone 0 50;mover thief 0 0 5;");
        x.night();
        stand("9: thief on 0", x, 45);
        x.night();
        stand("9: thief on 1", x, 50);
        x.night();
        stand("9: thief on 2", x, 45);
        Tape.road(x, "law 99 1 1 1;stone 0 50;mover priest 0 1 5;");
        x.night();
        stand("9: priest at home", x, 55);
        due.is("9: priest not at home", x.night(), 0);
        x.prove(0);
        due.is("9: priest again", x.night(), 1);
        stand("9: priest on an even night", x, 55);
        x.prove(0);
        due.is("9: priest on an odd night", x.night(), 1);
        stand("9: priest his way always", x, 55);
        Tape.road(x, "law 99 1 1 1;stone 0 50;mover inn 0 1 5;mover priest 0 1 5;");
        x.night();
        stand("9: not home as his turn comes", x, 55);
    }

    private static void proofs() {
        NightStones x = new NightStones();
        due.is("10: no road", x.prove(0), BAD);
        Tape.road(x, "law 60 1 1 1;stone 0 10;stone 0 20;stone 0 30;"
            + "mover inn 0 1 5;mover carter 0 1 5;mover inn 2 0 5;");
        for (int stone : new int[] {-1, 3, Integer.MIN_VALUE, Integer.MAX_VALUE}) {
            due.is("10: stone " + stone, x.prove(stone), BAD);
        }
        due.is("10: is home", x.prove(0), STATE);
        x.night();
        stand("10", x, 19, 20, 25);
        due.is("10: how far", x.prove(0), 9);
        due.is("10: outward", x.prove(2), 5);
        stand("10", x, 10, 20, 30);
        due.is("10: acts", x.count(4), 3);
        due.is("10: no night", x.count(3), 1);
        due.is("10: home now", x.prove(0), STATE);
        due.is("10: refused, no act", x.count(4), 3);
        Tape.road(x, "law 60 1 1 1;stone 0 10;stone 0 20;mover inn 1 1 5;mover carter 0 1 5;mover carter 0 1 1;");
        x.night();
        stand("10: another there", x, 22, 25);
        due.is("10: back", x.prove(0), 12);
        due.is("10: back too", x.prove(1), 5);
        x.undo();
        x.undo();
        due.is("10: one is between", x.prove(1), STATE);
        due.is("10: first the one", x.prove(0), 12);
        Tape.road(x, "law 60 1 1 1;stone 0 10;stone 0 20;mover carter 1 1 5;mover carter 0 1 5;");
        x.night();
        stand("10: on its home", x, 20, 30);
        due.is("10: another is there", x.prove(1), STATE);
        Tape.road(x, "law 60 1 1 1;stone 0 10;stone 0 20;mover carter 0 0 5;mover carter 1 0 5;");
        x.night();
        stand("10: on its home, inward", x, 0, 10);
        due.is("10: another is there, outward", x.prove(0), STATE);
        due.is("10: that one first", x.prove(1), 10);
        due.is("10: then it", x.prove(0), 10);
    }

    private static void undoing() {
        NightStones x = new NightStones();
        due.is("11: no road", x.undo(), STATE);
        Tape.road(x, "law 200 1 1 1;stone 0 0;stone 0 150;mover inn 0 1 3;");
        due.is("11: none", x.undo(), STATE);
        x.night();
        x.night();
        x.prove(0);
        x.time(0, 1, 1, 1);
        due.is("11: proof undone", x.undo(), 2);
        stand("11", x, 6, 150);
        due.is("11: nights as they were", x.count(3), 2);
        due.is("11: times stay", x.count(5), 1);
        due.is("11: night undone", x.undo(), 1);
        stand("11", x, 3, 150);
        due.is("11: one night gone", x.count(3), 1);
        due.is("11: the first", x.undo(), 0);
        stand("11", x, 0, 150);
        due.is("11: no more", x.undo(), STATE);
        for (int k = 1; k <= 30; k++) {
            x.night();
            due.is("11: kept", x.count(4), Math.min(k, 24));
        }
        stand("11: after 30", x, 90, 150);
        for (int k = 23; k >= 0; k--) {
            due.is("11: yet", x.undo(), k);
            due.is("11: its night", x.count(3), 6 + k);
            due.is("11: its place", x.stone(0, 1), 3 * (6 + k));
        }
        due.is("11: the oldest are forgotten", x.undo(), STATE);
        stand("11: six stay", x, 18, 150);
        due.is("11: six nights", x.count(3), 6);
        Tape.road(x, "law 10 1 1 1;");
        x.night();
        due.is("11: an act by which nothing becomes another", x.count(4), 1);
        due.is("11: is undone", x.undo(), 0);
        due.is("11: its night too", x.count(3), 0);
    }

    private static void stonesAndCarries() {
        NightStones x = new NightStones();
        due.is("12: no road", x.stone(0, 1), BAD);
        due.is("13: no road", x.carry(0, 0, 0), BAD);
        Tape.road(x, "law 60 3 1 1;stone 40 10;stone 15 20;mover inn 1 1 5;");
        x.night();
        due.is("12: says", x.stone(1, 0), 15);
        due.is("12: at", x.stone(1, 1), 25);
        due.is("12: home", x.stone(1, 2), 20);
        for (int what : new int[] {-1, 3, Integer.MIN_VALUE, Integer.MAX_VALUE}) {
            due.is("12: what " + what, x.stone(0, what), BAD);
        }
        due.is("13: pay", x.carry(0, 1, 0), 75);
        due.is("13: pay back", x.carry(1, 0, 0), 75);
        due.is("13: went", x.carry(0, 1, 1), 15);
        due.is("13: went back", x.carry(1, 0, 1), 15);
        due.is("13: to the same", x.carry(1, 1, 1), 0);
        for (int stone : new int[] {-1, 2, Integer.MIN_VALUE, Integer.MAX_VALUE}) {
            due.is("12: stone " + stone, x.stone(stone, 0), BAD);
            due.is("13: from " + stone, x.carry(stone, 0, 0), BAD);
            due.is("13: to " + stone, x.carry(0, stone, 0), BAD);
        }
        for (int what : WRONG_CHOICES) {
            due.is("13: what " + what, x.carry(0, 1, what), BAD);
        }
    }

    private static void times() {
        NightStones x = new NightStones();
        due.is("14: no road", x.time(0, 1, 1, 1), BAD);
        Tape.road(x, "law 200 1 1 1;stone 0 0;stone 0 50;stone 0 100;");
        due.is("14: one", x.time(0, 2, 1, 0), 1);
        due.is("14: most pace, hours", x.time(1, 2, 20, 99), 2);
        due.is("14: itself", x.time(1, 1, 1, 1), BAD);
        due.is("14: back", x.time(2, 1, 1, 1), BAD);
        due.is("14: a", x.time(-1, 1, 1, 1), BAD);
        due.is("14: b", x.time(0, 3, 1, 1), BAD);
        due.is("14: pace 0", x.time(0, 1, 0, 1), BAD);
        due.is("14: pace 21", x.time(0, 1, 21, 1), BAD);
        due.is("14: hours below 0", x.time(0, 1, 1, -1), BAD);
        due.is("14: hours 100", x.time(0, 1, 1, 100), BAD);
        due.is("14: none of these", x.count(5), 2);
        for (int k = 3; k <= 12; k++) {
            due.is("14: more", x.time(0, 1, 5, 5), k);
        }
        due.is("14: full", x.time(0, 1, 5, 5), FULL);
        due.is("14: BAD ahead of FULL", x.time(1, 0, 5, 5), BAD);
        due.is("14: no act", x.count(4), 0);
    }

    private static void fill(NightStones x, int row, int i, int... items) {
        for (int k = 0; k < items.length; k++) {
            x.set(row, i + k, items[k]);
        }
    }

    private static void timesFromRows() {
        NightStones x = new NightStones();
        due.is("15: STATE ahead of BAD", x.times(-1, 0, 0), STATE);
        Tape.road(x, "law 200 1 1 1;stone 0 0;stone 0 50;stone 0 100;");
        for (int row : WRONG_ROWS) {
            due.is("15: row " + row, x.times(row, 0, 1), BAD);
        }
        for (int n : new int[] {0, -1, 11, Integer.MIN_VALUE, Integer.MAX_VALUE}) {
            due.is("15: n " + n, x.times(0, 0, n), BAD);
        }
        due.is("15: missing", x.times(0, 0, 1), NULL_ROW);
        x.row(0, 0, 9);
        due.is("15: place", x.times(0, 0, 3), PLACE);
        due.is("15: place below", x.times(0, -1, 1), PLACE);
        due.is("15: place beyond", x.times(0, 6, 1), PLACE);
        due.is("15: far place", x.times(0, Integer.MAX_VALUE, 1), PLACE);
        fill(x, 0, 1, 0, 1, 7, 3, 1, 2, 9, 2);
        due.is("15: two", x.times(0, 1, 2), 2);
        due.is("15: of the first", x.ends(0, 1, 0), 21);
        due.is("15: of the second", x.ends(1, 2, 1), 26);
        due.is("15: status", x.status(), 0);
        fill(x, 0, 5, 2, 1, 9, 2);
        x.set(7, 0, 0);
        due.is("15: b no farther", x.times(0, 1, 2), BAD);
        due.is("15: status stays", x.status(), 1);
        fill(x, 0, 5, 1, 3, 9, 2);
        due.is("15: no such stone", x.times(0, 1, 2), BAD);
        fill(x, 0, 5, 1, 2, 21, 2);
        due.is("15: pace", x.times(0, 1, 2), BAD);
        fill(x, 0, 5, 1, 2, 20, 100);
        due.is("15: hours", x.times(0, 1, 2), BAD);
        due.is("15: all or none", x.count(5), 2);
        manyTimesFromRows(x);
    }

    private static void manyTimesFromRows(NightStones x) {
        x.row(1, 2, 40);
        for (int k = 0; k < 10; k++) {
            fill(x, 1, 4 * k, 0, 1, 7, 3);
        }
        x.time(0, 1, 7, 3);
        due.is("15: no room", x.times(1, 0, 10), FULL);
        due.is("15: none came", x.count(5), 3);
        x.set(1, 39, 100);
        due.is("15: BAD ahead of FULL", x.times(1, 0, 10), BAD);
        due.is("15: room", x.times(1, 0, 9), 12);
        due.is("15: full", x.times(1, 0, 1), FULL);
        x.forget();
        x.set(1, 39, 3);
        due.is("15: ten", x.times(1, 0, 10), 10);
    }

    private static void timesForgotten() {
        NightStones x = new NightStones();
        due.is("16: no road", x.forget(), 0);
        Tape.road(x, "law 100 1 1 1;stone 0 0;stone 0 50;");
        x.time(0, 1, 3, 3);
        x.time(0, 1, 3, 4);
        due.is("16: two", x.forget(), 2);
        due.is("16: none", x.forget(), 0);
        due.is("16: unbound", x.ends(0, 1, 1), 100);
        due.is("16: no act", x.count(4), 0);
    }

    private static void ends() {
        NightStones x = new NightStones();
        due.is("17: no road", x.ends(0, 1, 0), BAD);
        Tape.road(x, "law 60 3 1 1;stone 0 0;stone 0 1;stone 0 2;stone 0 59;");
        due.is("17: least", x.ends(0, 3, 0), 3);
        due.is("17: most", x.ends(0, 3, 1), 60);
        due.is("17: most of neighbours", x.ends(1, 2, 1), 58);
        x.time(0, 1, 7, 3);
        due.is("17: at least", x.ends(0, 1, 0), 21);
        due.is("17: less than", x.ends(0, 1, 1), 27);
        x.time(0, 1, 5, 4);
        due.is("17: by both, least", x.ends(0, 1, 0), 21);
        due.is("17: by both, most", x.ends(0, 1, 1), 24);
        x.time(0, 2, 10, 2);
        due.is("17: by the one beyond", x.ends(1, 2, 1), 8);
        due.is("17: by the one ahead", x.ends(0, 2, 0), 22);
        x.time(1, 3, 20, 1);
        due.is("17: by all together", x.ends(0, 3, 1), 60);
        due.is("17: by all together, least", x.ends(0, 3, 0), 41);
        due.is("17: itself", x.ends(1, 1, 0), BAD);
        due.is("17: back", x.ends(2, 1, 0), BAD);
        due.is("17: no a", x.ends(-1, 1, 0), BAD);
        due.is("17: no b", x.ends(0, 4, 0), BAD);
        for (int what : WRONG_CHOICES) {
            due.is("17: what " + what, x.ends(0, 1, what), BAD);
        }
        x.time(0, 1, 1, 0);
        due.is("17: no way", x.ends(2, 3, 0), NONE);
        due.is("17: no way at all", x.ends(2, 3, 1), NONE);
        due.is("17: BAD ahead of no way", x.ends(3, 2, 1), BAD);
        x.forget();
        x.time(0, 3, 20, 3);
        due.is("17: the road's end", x.ends(0, 3, 1), 60);
        due.is("17: to the end", x.ends(0, 3, 0), 60);
        x.forget();
        x.time(0, 3, 1, 61);
        due.is("17: beyond the road", x.ends(0, 3, 0), NONE);
    }

    private static void widest() {
        NightStones x = new NightStones();
        due.is("18: no road", x.widest(), STATE);
        Tape.road(x, "law 10 1 1 1;");
        due.is("18: no stone", x.widest(), NONE);
        Tape.road(x, "law 10 1 1 1;stone 0 0;");
        due.is("18: one stone", x.widest(), NONE);
        Tape.road(x, "law 60 3 1 1;stone 0 0;stone 0 1;stone 0 2;");
        due.is("18: the first of several", x.widest(), 1);
        x.time(0, 1, 1, 5);
        due.is("18: another", x.widest(), 2);
        x.time(0, 2, 1, 9);
        due.is("18: all known", x.widest(), 1);
        x.time(0, 1, 1, 9);
        due.is("18: no way", x.widest(), NONE);
        x.forget();
        x.time(0, 1, 20, 1);
        due.is("18: the first of two", x.widest(), 2);
        x.time(0, 2, 20, 2);
        due.is("18: least known", x.widest(), 8);
        x.time(1, 2, 1, 5);
        due.is("18: the others", x.widest(), 1);
    }

    private static void rests() {
        NightStones x = new NightStones();
        due.is("19: no road", x.rest(), STATE);
        Tape.road(x, "law 100 1 1 1;stone 0 0;stone 0 90;mover inn 0 1 5;");
        due.is("19: runs", x.rest(), 18);
        x.night();
        due.is("19: from now on", x.rest(), 17);
        due.is("19: nothing changes", x.count(3), 1);
        stand("19: nothing changes", x, 5, 90);
        Tape.road(x, "law 100 1 1 1;stone 0 0;stone 0 61;mover inn 0 1 1;");
        due.is("19: sixty", x.rest(), 60);
        Tape.road(x, "law 100 1 1 1;stone 0 0;stone 0 62;mover inn 0 1 1;");
        due.is("19: above sixty", x.rest(), NONE);
        Tape.road(x, "law 100 1 1 1;stone 0 0;stone 0 12;mover parish 0 1 5;");
        due.is("19: a still night between is no rest", x.rest(), 5);
        x.night();
        due.is("19: from an odd night", x.rest(), 4);
        Tape.road(x, "law 100 1 1 1;stone 0 50;mover thief 0 1 5;");
        due.is("19: goes round", x.rest(), NONE);
        Tape.road(x, "law 10 1 1 1;stone 0 0;");
        due.is("19: rests", x.rest(), 0);
    }

    private static void moved() {
        NightStones x = new NightStones();
        due.is("20: STATE ahead of BAD", x.moved(2), STATE);
        Tape.road(x, "law 10 1 1 1;");
        due.is("20: none", x.moved(0), 0);
        due.is("20: empty", x.moved(1), 0);
        for (int what : WRONG_CHOICES) {
            due.is("20: what " + what, x.moved(what), BAD);
        }
        Tape.road(x, "law 99 1 1 1;stone 5 0;stone 15 10;stone 21 20;stone 35 30;");
        due.is("20: short of it alike", x.moved(0), 1);
        due.is("20: that one", x.moved(1), 4);
        Tape.road(x, "law 99 1 1 1;stone 5 0;stone 5 10;");
        due.is("20: beyond is not short", x.moved(0), 1);
        due.is("20: the least", x.moved(1), 1);
        Tape.road(x, "law 99 1 1 1;stone 0 0;stone 0 1;stone 2 2;stone 2 3;");
        due.is("20: two of four", x.moved(0), 2);
        due.is("20: the least of several", x.moved(1), 5);
        Tape.road(x, "law 99 1 1 1;stone 0 0;stone 9 10;stone 18 20;");
        due.is("20: all differ", x.moved(0), 2);
        due.is("20: the least of three", x.moved(1), 3);
    }

    private static void who() {
        NightStones x = new NightStones();
        due.is("21: STATE ahead of BAD", x.who(-1, 2), STATE);
        Tape.road(x, "law 99 1 1 1;stone 0 50;mover inn 0 1 5;mover inn 0 0 5;mover parish 0 1 1;");
        for (int n : new int[] {-1, 10, Integer.MIN_VALUE, Integer.MAX_VALUE}) {
            due.is("21: n " + n, x.who(n, 0), BAD);
        }
        for (int what : WRONG_CHOICES) {
            due.is("21: what " + what, x.who(0, what), BAD);
        }
        due.is("21: in no night", x.who(0, 0), 8);
        due.is("21: nobody", x.who(0, 1), 0);
        due.is("21: nobody, or both", x.who(1, 0), 2);
        x.night();
        due.is("21: with a parish", x.who(1, 0), 2);
        due.is("21: it alone", x.who(1, 1), 4);
        due.is("21: none stand so", x.who(3, 0), 0);
        due.is("21: no least", x.who(3, 1), NONE);
        due.is("21: nothing changes", x.count(3), 1);
        x.night();
        due.is("21: whatever the night", x.who(2, 1), 4);
        x.night();
        x.prove(0);
        due.is("21: from NIGHT 0 on", x.who(9, 0), 2);
        Tape.road(x, "law 10 1 1 1;stone 0 0;");
        due.is("21: none", x.who(9, 0), 1);
        due.is("21: the empty set", x.who(9, 1), 0);
    }

    private static void dares() {
        NightStones x = new NightStones();
        due.is("22: STATE ahead of BAD", x.dare(4, 2), STATE);
        Tape.road(x, "law 60 3 10 2;");
        for (int d : new int[] {-1, 4, Integer.MIN_VALUE, Integer.MAX_VALUE}) {
            due.is("22: d " + d, x.dare(d, 0), BAD);
        }
        for (int what : WRONG_CHOICES) {
            due.is("22: what " + what, x.dare(0, what), BAD);
        }
        fraction(x, 0, 0, 1);
        fraction(x, 1, 5, 2);
        fraction(x, 2, 112, 25);
        fraction(x, 3, 6019, 1000);
        Tape.road(x, "law 60 20 1 99;");
        fraction(x, 3, 100L * (970299L * 60 - 29701L * 99) / 100, 1000000);
        Tape.road(x, "law 60 5 100 7;");
        fraction(x, 2, -7, 1);
        Tape.road(x, "law 60 5 0 7;");
        fraction(x, 3, 15, 1);
        Tape.road(x, "law 60 1 50 1;");
        fraction(x, 1, 0, 1);
        fraction(x, 2, -1, 4);
    }

    private static void fraction(NightStones x, int d, long above, long below) {
        due.is("22: above of " + d, x.dare(d, 0), above);
        due.is("22: below of " + d, x.dare(d, 1), below);
    }

    private static void bests() {
        NightStones x = new NightStones();
        due.is("23: STATE ahead of BAD", x.best(2), STATE);
        bestIs("law 60 3 10 2;", 3, 0);
        for (int what : WRONG_CHOICES) {
            Tape.road(x, LAW);
            due.is("23: what " + what, x.best(what), BAD);
        }
        bestIs("law 60 1 50 1;", 0, 1);
        bestIs("law 60 0 0 0;", 0, 0);
        bestIs("law 60 20 100 0;", 0, 20);
        bestIs("law 60 7 100 5;", 0, 20);
        bestIs("law 60 4 50 0;", 1, 0);
        bestIs("law 60 12 50 10;", 1, 10);
        bestIs("law 60 20 35 99;", 0, 20);
        bestIs("law 60 20 40 3;", 2, 2);
        bestIs("law 60 20 30 3;", 3, 1);
    }

    private static void bestIs(String law, int best, int fair) {
        NightStones x = Tape.with(law);
        due.is("23: best of " + law, x.best(0), best);
        due.is("23: fair of " + law, x.best(1), fair);
    }

    private static void images() {
        NightStones x = new NightStones();
        for (int k : WRONG_CHOICES) {
            due.is("24: k " + k, x.image(k), BAD);
            due.is("25: k " + k, x.restore(k), BAD);
        }
        due.is("24: no road", x.image(1), STATE);
        due.is("25: none", x.restore(1), STATE);
        Tape.road(x, FIVE_KINDS);
        x.night();
        x.time(0, 1, 3, 4);
        due.is("24: kept", x.image(1), 1);
        due.is("24: acts stay", x.count(4), 1);
        due.is("25: of the other none", x.restore(0), STATE);
        x.night();
        x.forget();
        x.time(0, 2, 5, 1);
        x.time(0, 2, 6, 1);
        due.is("25: restored", x.restore(1), 1);
        due.is("25: nights", x.count(3), 1);
        due.is("25: times", x.count(5), 1);
        due.is("25: least", x.ends(0, 1, 0), 12);
        due.is("25: nothing to undo", x.undo(), STATE);
        stand("25", x, 1, 7, 10, 23, 34);
        due.is("25: home", x.stone(3, 2), 20);
        x.image(0);
        x.night();
        x.image(1);
        x.restore(0);
        due.is("25: each its own", x.count(3), 1);
        x.restore(1);
        due.is("25: the latest", x.count(3), 2);
        wholeRoadRestored(x);
    }

    private static void wholeRoadRestored(NightStones x) {
        Tape.road(x, "law 10 1 50 1;stone 9 1;mover inn 0 0 1;");
        x.time(0, 0, 1, 1);
        due.is("25: another road", x.count(1), 1);
        x.restore(0);
        due.is("25: stones", x.count(1), 5);
        due.is("25: movers", x.count(2), 5);
        due.is("25: fee", x.carry(0, 4, 0), 231);
        due.is("25: seen, fine", x.dare(1, 0), 19);
        due.is("25: seen, fine, below", x.dare(1, 1), 5);
        due.is("25: length", x.ends(3, 4, 1), 40 - 12 - 2);
        due.is("25: kinds", x.kind(0) * 10000 + x.kind(1) * 1000 + x.kind(2) * 100 + x.kind(3) * 10 + x.kind(4), 12345);
        due.is("25: reach, pushed", x.ask(2, 0), 3 + 2 + 23 - 1000);
        x.undo();
        x.night();
        stand("25: ways", x, 1, 9, 10, 23, 30);
    }

    private static void kinds() {
        NightStones x = new NightStones();
        due.is("26: no road", x.kind(0), BAD);
        due.is("27: no road", x.as(0, 0), BAD);
        Tape.road(x, FIVE_KINDS);
        int[][] are = {{0, 1}, {0, 1, 2}, {0, 1, 3}, {0, 4}, {0, 4, 5}};
        for (int mover = 0; mover < 5; mover++) {
            due.is("26: kind " + mover, x.kind(mover), mover + 1);
            for (int kind = 0; kind <= 5; kind++) {
                boolean is = false;
                for (int one : are[mover]) {
                    is |= one == kind;
                }
                due.is("27: " + mover + " as " + kind, x.as(mover, kind), is ? mover : KIND);
                due.is("27: status", x.status(), is ? 0 : 3);
            }
        }
        for (int mover : new int[] {-1, 5, Integer.MIN_VALUE, Integer.MAX_VALUE}) {
            due.is("26: mover " + mover, x.kind(mover), BAD);
            due.is("27: mover " + mover, x.as(mover, 0), BAD);
        }
        for (int kind : new int[] {-1, 6, 32, Integer.MIN_VALUE, Integer.MAX_VALUE}) {
            due.is("27: kind " + kind, x.as(0, kind), BAD);
        }
    }

    private static void asked(NightStones x, int mover, int what, int answer, int... trace) {
        String told = "ask " + mover + " " + what;
        due.is("28: " + told, x.ask(mover, what), answer);
        for (int i = 0; i < trace.length; i++) {
            due.is("29: " + told + " trace " + i, x.trace(i), trace[i]);
        }
        for (int i = trace.length; i < 17; i++) {
            due.is("29: " + told + " trace " + i, x.trace(i), NONE);
        }
    }

    private static void asks() {
        NightStones x = new NightStones();
        due.is("28: no road", x.ask(0, 0), BAD);
        Tape.road(x, FIVE_KINDS);
        asked(x, 0, 0, 7, 11, 10, 21, 20);
        asked(x, 0, 1, 5, 21, 20);
        asked(x, 1, 0, -27, 12, 11, 10, 24, 21, 20);
        asked(x, 1, 1, 26, 24, 21, 20);
        asked(x, 2, 0, -975, 11, 10, 22, 21, 20);
        asked(x, 2, 1, -978, 22, 21, 20);
        asked(x, 3, 0, -96, 13, 10);
        asked(x, 3, 1, 99, 23, 20, 13, 10);
        asked(x, 4, 0, -198, 14, 13, 10);
        asked(x, 4, 1, 202, 23, 20, 14, 13, 10);
        x.night();
        asked(x, 0, 1, 7, 21, 20);
    }

    private static void traces() {
        NightStones x = new NightStones();
        due.is("29: at first", x.trace(0), NONE);
        Tape.road(x, FIVE_KINDS);
        x.ask(3, 0);
        for (int mover : new int[] {-1, 5, Integer.MIN_VALUE, Integer.MAX_VALUE}) {
            due.is("28: mover " + mover, x.ask(mover, 0), BAD);
        }
        for (int what : WRONG_CHOICES) {
            due.is("28: what " + what, x.ask(0, what), BAD);
        }
        due.is("29: stays where refused", x.trace(0), 13);
        due.is("29: stays too", x.trace(1), 10);
        for (int i : new int[] {-1, 2, 16, Integer.MIN_VALUE, Integer.MAX_VALUE}) {
            due.is("29: trace " + i, x.trace(i), NONE);
        }
    }

    private static void counts() {
        NightStones x = Tape.with(FIVE_KINDS);
        x.row(0, 0, 0);
        x.row(7, 1, 2);
        x.night();
        x.night();
        x.prove(1);
        x.time(0, 1, 1, 1);
        Tape.feed(x, "some");
        int[] counted = {2, 5, 5, 2, 3, 1, 4};
        for (int what = 0; what < counted.length; what++) {
            due.is("30: count " + what, x.count(what), counted[what]);
        }
        for (int what : new int[] {-1, 7, Integer.MIN_VALUE, Integer.MAX_VALUE}) {
            due.is("30: what " + what, x.count(what), BAD);
        }
    }

    private static void statuses() {
        NightStones x = new NightStones();
        x.drop(0);
        due.is("31: NULL", x.status(), 1);
        x.row(0, 0, 41);
        x.set(9, 0, 0);
        x.copy(9, 0, 0, 0, 0);
        x.drop(-1);
        x.times(0, 0, 1);
        x.as(0, 0);
        due.is("31: BAD and STATE are none", x.status(), 1);
        x.night();
        x.count(0);
        x.trace(0);
        Tape.road(x, FIVE_KINDS);
        due.is("31: calls without a ROW", x.status(), 1);
        x.row(0, 2, 40);
        due.is("31: well", x.status(), 0);
        x.set(0, 40, 0);
        due.is("31: PLACE", x.status(), 2);
        x.set(0, 0, 0);
        due.is("31: well, set", x.status(), 0);
        x.row(1, 0, -1);
        due.is("31: SIZE", x.status(), 4);
        x.copy(0, 0, 0, 0, 1);
        due.is("31: well, copy", x.status(), 0);
        x.row(1, 1, 1);
        x.copy(0, 0, 1, 0, 1);
        due.is("31: STORE", x.status(), 5);
        x.drop(1);
        due.is("31: well, drop", x.status(), 0);
        x.as(0, 5);
        due.is("31: KIND", x.status(), 3);
        x.as(0, 1);
        due.is("31: well, as", x.status(), 0);
        statusOfTimes(x);
    }

    private static void statusOfTimes(NightStones x) {
        x.times(1, 0, 1);
        due.is("31: NULL of times", x.status(), 1);
        x.times(0, 0, 1);
        due.is("31: BAD of items", x.status(), 1);
        for (int k = 0; k < 10; k++) {
            fill(x, 0, 4 * k, 0, 1, 1, 1);
        }
        x.times(0, 37, 1);
        due.is("31: PLACE of times", x.status(), 2);
        x.times(0, 0, 10);
        due.is("31: well, times", x.status(), 0);
        x.times(0, 37, 1);
        x.times(0, 0, 10);
        due.is("31: FULL is none", x.status(), 2);
    }
}
