/** The boundary sentences on KINDS, ASKS and counts: part 4 of the Terms, promises 26 to 31. */
public final class EdgesAskedTest extends Edges {
    private static final Due due = new Due("EdgesAskedTest");
    private static final String FIVE = "law 40 7 20 9;stone 0 0;stone 5 5;stone 10 12;stone 20 20;stone 33 30;"
        + "mover inn 1 1 2;mover carter 2 0 1;mover parish 3 1 3;mover thief 4 1 4;mover priest 0 1 1;";

    private EdgesAskedTest() {
    }

    public static void main(String[] args) {
        kindsAsTold();
        whatEachIs();
        numbersOfKinds();
        heIsNoSuchOne();
        sizes();
        marks();
        nearestBodies();
        askedAnew();
        leastAndMostAsked();
        numbersOfAsks();
        traceAtFirst();
        traceAheadOfAnAsk();
        traceStaysWhereRefused();
        numbersOfTheTrace();
        counts();
        numbersOfCounts();
        statusOfKinds();
        statusOfTimes();
        due.close();
    }

    private static void kindsAsTold() {
        due.by("Promise 26", "The KIND of a MOVER, as told (1 to 5). BAD.");
        NightStones x = on(FIVE);
        for (int mover = 0; mover < 5; mover++) {
            due.is("mover " + mover, x.kind(mover), mover + 1);
        }
        for (int mover : outside(0, 4)) {
            due.is("mover " + mover, x.kind(mover), BAD);
        }
        x = on("law 10 0 0 0;stone 0 0;mover priest 0 0 1;");
        due.is("the only one", x.kind(0), 5);
        due.is("one more", x.kind(1), BAD);
        due.is("none", on("law 10 0 0 0;stone 0 0;").kind(0), BAD);
        due.is("no road", new NightStones().kind(0), BAD);
    }

    // At the KIND of the mover, as what he is taken: 1 where that is so.
    private static void whatEachIs() {
        due.by("Terms 3", "0 MOVER; 1 INN, a MOVER; 2 CARTER, an INN one; 3 PARISH, an INN one; 4 THIEF, a MOVER; "
            + "5 PRIEST, a THIEF one");
        int[][] is = {{1, 1, 0, 0, 0, 0}, {1, 1, 1, 0, 0, 0}, {1, 1, 0, 1, 0, 0}, {1, 0, 0, 0, 1, 0}, {1, 0, 0, 0, 1, 1}};
        NightStones x = on(FIVE);
        for (int mover = 0; mover < 5; mover++) {
            for (int kind = 0; kind <= 5; kind++) {
                due.is("mover " + mover + " as " + kind, x.as(mover, kind), is[mover][kind] == 1 ? mover : KIND);
                due.is("status", x.status(), is[mover][kind] == 1 ? 0 : 3);
            }
        }
    }

    private static void numbersOfKinds() {
        due.by("Promise 27", "A MOVER is taken as one of a KIND (0 .. 5): the MOVER's number. BAD");
        NightStones x = on(FIVE);
        due.is("the first of all", x.as(0, 0), 0);
        due.is("the last of all", x.as(4, 5), 4);
        for (int kind : outside(0, 5)) {
            due.is("kind " + kind, x.as(4, kind), BAD);
        }
        for (int mover : outside(0, 4)) {
            due.is("mover " + mover, x.as(mover, 0), BAD);
            due.is("mover " + mover + " as a thief", x.as(mover, 4), BAD);
        }
        due.is("no road", new NightStones().as(0, 0), BAD);
        due.is("no mover", on("law 10 0 0 0;stone 0 0;").as(0, 0), BAD);
    }

    private static void heIsNoSuchOne() {
        due.by("Promise 27", "KIND: he is no such one.");
        NightStones x = on("law 10 0 0 0;stone 0 0;mover inn 0 0 1;mover thief 0 0 1;");
        due.is("an inn is no carter", x.as(0, 2), KIND);
        due.is("an inn is no parish", x.as(0, 3), KIND);
        due.is("a thief is no priest", x.as(1, 5), KIND);
        due.is("a thief is no inn", x.as(1, 1), KIND);
        due.is("the kind stays", x.kind(1), 4);
    }

    private static void asked(NightStones x, int mover, int what, int answer, int... trace) {
        String told = "ask " + mover + " " + what;
        due.is(told, x.ask(mover, what), answer);
        for (int i = 0; i < trace.length; i++) {
            due.is(told + ", trace " + i, x.trace(i), trace[i]);
        }
        for (int i = trace.length; i < 18; i++) {
            due.is(told + ", trace " + i, x.trace(i), NONE);
        }
    }

    private static void sizes() {
        due.by("Terms 4", "0 SIZE: 10 lent to all MOVERS: REACH. 11 of INNS: what 10 gives, and MARK. 12 of CARTERS: 0 less what "
            + "11 gives. 13 of THIEVES: what 10 gives, less 100. 14 of PRIESTS: twice what 13 gives (asked once).");
        NightStones x = on(FIVE);
        asked(x, 0, 0, 2 + 0 + 5, 11, 10, 21, 20);
        asked(x, 1, 0, -(1 + 2 * (1 + 12)), 12, 11, 10, 24, 21, 20);
        asked(x, 2, 0, 3 + 2 + 20 - 1000, 11, 10, 22, 21, 20);
        asked(x, 3, 0, 4 - 100, 13, 10);
        asked(x, 4, 0, 2 * (1 - 100), 14, 13, 10);
    }

    private static void marks() {
        due.by("Terms 4", "1 MARK: 20 lent to all MOVERS: his number. 21 of INNS: what 20 gives, and where his STONE stands. 22 of "
            + "PARISHES: what 21 gives, less 1000. 23 of THIEVES: what 20 gives, less SIZE. 24 of CARTERS: twice what 21 gives "
            + "(asked once).");
        NightStones x = on(FIVE);
        asked(x, 0, 1, 0 + 5, 21, 20);
        asked(x, 1, 1, 2 * (1 + 12), 24, 21, 20);
        asked(x, 2, 1, 2 + 20 - 1000, 22, 21, 20);
        asked(x, 3, 1, 3 - (4 - 100), 23, 20, 13, 10);
        asked(x, 4, 1, 4 - 2 * (1 - 100), 23, 20, 14, 13, 10);
    }

    // Of what each asks the BODY that begins; 10 and 20, that are lent, are the first of none.
    private static void nearestBodies() {
        due.by("Terms 4", "(Of an ask the BODY told for the KIND begins, else that of the nearest KIND that it is, too, "
            + "else the one that is lent");
        int[] ofSize = {11, 12, 11, 13, 14};
        int[] ofMark = {21, 24, 22, 23, 23};
        NightStones x = on(FIVE);
        for (int mover = 0; mover < 5; mover++) {
            x.ask(mover, 0);
            due.is("size of " + mover, x.trace(0), ofSize[mover]);
            x.ask(mover, 1);
            due.is("mark of " + mover, x.trace(0), ofMark[mover]);
        }
    }

    private static void askedAnew() {
        due.by("Terms 4", "SIZE, MARK within others are asked of the same MOVER anew.");
        NightStones x = on(FIVE);
        x.night();
        asked(x, 0, 0, 2 + 0 + 7, 11, 10, 21, 20);
        asked(x, 1, 0, -(1 + 2 * (1 + 10)), 12, 11, 10, 24, 21, 20);
        asked(x, 2, 1, 2 + 23 - 1000, 22, 21, 20);
        x.undo();
        asked(x, 0, 1, 5, 21, 20);
    }

    private static void leastAndMostAsked() {
        due.by("Terms 4", "12 of CARTERS: 0 less what 11 gives");
        String six = "law 200 0 0 0;stone 0 0;stone 0 196;stone 0 197;stone 0 198;stone 0 199;stone 0 200;";
        NightStones x = on(six + "mover carter 0 0 1;mover priest 0 0 5;mover parish 0 0 1;mover thief 5 0 5;mover carter 5 0 5;");
        asked(x, 0, 0, -1, 12, 11, 10, 24, 21, 20);
        asked(x, 0, 1, 0, 24, 21, 20);
        asked(x, 1, 0, -190, 14, 13, 10);
        asked(x, 2, 0, 1 + 2 - 1000, 11, 10, 22, 21, 20);
        asked(x, 3, 1, 3 + 95, 23, 20, 13, 10);
        asked(x, 4, 0, -(5 + 2 * 204), 12, 11, 10, 24, 21, 20);
        asked(x, 4, 1, 408, 24, 21, 20);
    }

    private static void numbersOfAsks() {
        due.by("Promise 28", "An ASK (0, 1) of a MOVER. BAD.");
        NightStones x = on(FIVE);
        for (int what : outside(0, 1)) {
            due.is("what " + what, x.ask(0, what), BAD);
        }
        for (int mover : outside(0, 4)) {
            due.is("mover " + mover + ", size", x.ask(mover, 0), BAD);
            due.is("mover " + mover + ", mark", x.ask(mover, 1), BAD);
        }
        due.is("the last of all", x.ask(4, 1), 202);
        due.is("no road", new NightStones().ask(0, 0), BAD);
        due.is("no mover", on("law 10 0 0 0;stone 0 0;").ask(0, 0), BAD);
    }

    private static void traceAtFirst() {
        due.by("Promise 29", "Number i of THE TRACE; NONE.");
        NightStones x = new NightStones();
        for (int i : new int[] {0, 1, 15, 16}) {
            due.is("at first, " + i, x.trace(i), NONE);
        }
        Tape.road(x, FIVE);
        due.is("no ask yet", x.trace(0), NONE);
        x.as(0, 1);
        x.kind(0);
        due.is("these are none", x.trace(0), NONE);
    }

    private static void traceAheadOfAnAsk() {
        due.by("Promise 28", "THE TRACE is empty ahead of it");
        NightStones x = on(FIVE);
        asked(x, 1, 0, -27, 12, 11, 10, 24, 21, 20);
        asked(x, 3, 0, -96, 13, 10);
        asked(x, 3, 0, -96, 13, 10);
        asked(x, 0, 1, 5, 21, 20);
        for (int k = 0; k < 8; k++) {
            x.ask(1, 0);
        }
        asked(x, 1, 0, -27, 12, 11, 10, 24, 21, 20);
    }

    private static void traceStaysWhereRefused() {
        due.by("Promise 28", "(where that is refused it stays)");
        NightStones x = on(FIVE);
        x.ask(4, 0);
        x.ask(5, 0);
        x.ask(-1, 1);
        x.ask(0, 2);
        x.ask(0, -1);
        int[] left = {14, 13, 10, NONE};
        for (int i = 0; i < left.length; i++) {
            due.is("trace " + i, x.trace(i), left[i]);
        }
        Tape.road(x, "law 10 0 0 0;");
        due.is("none is there to ask", x.ask(0, 0), BAD);
        for (int i = 0; i < left.length; i++) {
            due.is("trace " + i + " yet", x.trace(i), left[i]);
        }
    }

    // That THE TRACE keeps the first 16 alone is out of reach: no ask begins more than six BODIES.
    private static void numbersOfTheTrace() {
        due.by("Promise 29", "Number i of THE TRACE; NONE.");
        NightStones x = on(FIVE);
        x.ask(1, 0);
        due.is("the first", x.trace(0), 12);
        due.is("the last", x.trace(5), 20);
        for (int i : outside(0, 5)) {
            due.is("trace " + i, x.trace(i), NONE);
        }
        due.is("15", x.trace(15), NONE);
        due.is("16", x.trace(16), NONE);
    }

    private static void counted(String what, NightStones x, int... many) {
        for (int k = 0; k < many.length; k++) {
            due.is(what + ", count " + k, x.count(k), many[k]);
        }
    }

    private static void counts() {
        due.by("Promise 30", "How many: 0 ROWS, 1 STONES, 2 MOVERS, 3 NIGHTS gone, 4 ACTS that can be undone, 5 TIMES, "
            + "6 bytes on the tape.");
        NightStones x = new NightStones();
        counted("at first", x, 0, 0, 0, 0, 0, 0, 0);
        for (int row = 0; row < 8; row++) {
            x.row(row, 0, 0);
        }
        Tape.road(x, "law 200 1 1 1;" + SIX + "mover inn 5 1 1;mover inn 5 1 1;mover inn 5 1 1;mover inn 5 1 1;mover inn 5 0 1;");
        for (int k = 0; k < 12; k++) {
            x.time(0, 1, 20, 0);
        }
        nights(x, 25);
        x.prove(5);
        for (int k = 0; k < 50; k++) {
            x.feed(0, 8);
        }
        counted("all that there can be", x, 8, 6, 5, 25, 24, 12, 400);
        x.road();
        x.forget();
        x.undo();
        x.undo();
        x.drop(0);
        counted("one less", x, 7, 6, 5, 24, 22, 0, 0);
        Tape.road(x, "law 10 0 0 0;");
        counted("another road", x, 7, 0, 0, 0, 0, 0, 0);
    }

    private static void numbersOfCounts() {
        due.by("Promise 30", "6 bytes on the tape. BAD.");
        NightStones x = new NightStones();
        due.is("6", x.count(6), 0);
        for (int what : outside(0, 6)) {
            due.is("what " + what, x.count(what), BAD);
        }
        x = on(FIVE);
        due.is("7 on a road", x.count(7), BAD);
        due.is("-1 on a road", x.count(-1), BAD);
    }

    private static void statusOfKinds() {
        due.by("Promise 31", "or as(), that was not BAD, STATE, FULL");
        NightStones x = on(FIVE);
        x.as(0, 2);
        due.is("KIND", x.status(), 3);
        x.as(0, 6);
        x.as(5, 0);
        x.kind(9);
        x.ask(0, 0);
        x.ask(9, 0);
        due.is("BAD, and calls of other kinds", x.status(), 3);
        x.as(0, 1);
        due.is("it had none", x.status(), 0);
        x.as(3, 1);
        x.drop(0);
        due.is("the latest", x.status(), 1);
    }

    private static void statusOfTimes() {
        due.by("Promise 31", "Of the latest call with a ROW");
        NightStones x = on(FIVE);
        x.as(0, 2);
        x.times(0, 0, 0);
        x.times(8, 0, 1);
        due.is("BAD", x.status(), 3);
        x.times(0, 0, 1);
        due.is("NULL", x.status(), 1);
        x.row(0, 0, 40);
        x.times(0, 37, 1);
        due.is("PLACE", x.status(), 2);
        x.times(0, 0, 1);
        due.is("BAD of items", x.status(), 2);
        put(x, 0, 0, 0, 1, 20, 0);
        x.as(0, 2);
        x.times(0, 0, 1);
        due.is("it had none", x.status(), 0);
        for (int k = 1; k < 12; k++) {
            x.time(0, 1, 20, 0);
        }
        x.as(0, 2);
        x.times(0, 0, 1);
        due.is("FULL", x.status(), 3);
        x.time(0, 1, 20, 0);
        x.forget();
        x.night();
        x.undo();
        due.is("calls without a row", x.status(), 3);
    }
}
