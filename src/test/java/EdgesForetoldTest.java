/** The boundary sentences on what is foretold and on IMAGES: part 3 of the Terms, promises 19 to 25. */
public final class EdgesForetoldTest extends Edges {
    private static final Due due = new Due("EdgesForetoldTest");

    private EdgesForetoldTest() {
    }

    public static void main(String[] args) {
        sixtyNights();
        fromNowOn();
        norTheOneThatFollows();
        alreadyAtRest();
        goesRound();
        noRest();
        fewestLeftOut();
        leastOfSeveralSets();
        beyondOrShort();
        noneAndAllMoved();
        whereTheyStandNow();
        choicesOfMoved();
        nineNightsAtMost();
        setsOfMovers();
        howManySets();
        fromHomesOn();
        whateverTheNight();
        wheneverOut();
        choicesOfWho();
        yardsOfADare();
        noYards();
        seenAndUnseen();
        lowestTerms();
        belowNothing();
        choicesOfDare();
        leastOfSeveralDares();
        mostOfAll();
        greatestFee();
        choicesOfBest();
        numbersOfImages();
        noImageKept();
        eachImageItsOwn();
        allOfThat();
        noActThen();
        imageStays();
        withTimes();
        due.close();
    }

    // Stone 0 has that many yards to the one behind it.
    private static NightStones yards(int yards, String sort) {
        return on(200, at(0, yards + 1), "mover " + sort + " 0 1 1;");
    }

    private static void sixtyNights() {
        due.by("Terms 3", "REST: the fewest NIGHTS (0 to 60) from now on");
        for (int yards : new int[] {0, 1, 2, 58, 59, 60}) {
            due.is(yards + " nights", yards(yards, "inn").rest(), yards);
        }
        for (int yards : new int[] {61, 62, 63, 120, 199}) {
            due.is(yards + " nights", yards(yards, "inn").rest(), NONE);
        }
    }

    private static void fromNowOn() {
        due.by("Terms 3", "from now on");
        NightStones x = yards(62, "inn");
        due.is("of 62", x.rest(), NONE);
        x.night();
        due.is("of 61", x.rest(), NONE);
        x.night();
        due.is("of 60", x.rest(), 60);
        x.undo();
        due.is("of 61 again", x.rest(), NONE);
        nights(x, 61);
        due.is("of none", x.rest(), 0);
        x.prove(0);
        due.is("of 62 again", x.rest(), NONE);
    }

    // A parish is still on odd nights: what stands as before behind such a one is not yet at rest.
    private static void norTheOneThatFollows() {
        due.by("Terms 3", "behind which no STONE stands elsewhere behind the next NIGHT, nor behind the one that follows that");
        due.is("one push", yards(1, "parish").rest(), 1);
        due.is("two", yards(2, "parish").rest(), 3);
        due.is("thirty", yards(30, "parish").rest(), 59);
        due.is("thirty-one", yards(31, "parish").rest(), NONE);
        NightStones x = yards(2, "parish");
        x.night();
        due.is("the next night is still, that behind it not", x.rest(), 2);
        x.night();
        due.is("it is the next", x.rest(), 1);
        x.night();
        due.is("all is done", x.rest(), 0);
        x = yards(31, "parish");
        x.night();
        due.is("sixty, of thirty from an odd night on", x.rest(), 60);
        x = yards(32, "parish");
        x.night();
        due.is("behind 60 one is still, the one that follows not", x.rest(), NONE);
    }

    private static void alreadyAtRest() {
        due.by("Terms 3", "(0 to 60)");
        due.is("no stone", on("law 10 0 0 0;").rest(), 0);
        due.is("no mover", on(10, at(0, 5), "").rest(), 0);
        due.is("there and back in each night", on(60, at(20), "mover inn 0 1 5;mover inn 0 0 5;").rest(), 0);
        due.is("a thief without room", on(60, at(20, 21, 22), "mover thief 1 1 5;").rest(), 0);
        due.is("at both ends", on(60, at(0, 60), "mover inn 0 0 5;mover carter 1 1 5;").rest(), 0);
        due.is("a priest pushes once", on(60, at(20), "mover priest 0 1 5;").rest(), 1);
        due.is("a priest at the end", on(60, at(60), "mover priest 0 1 5;").rest(), 0);
    }

    private static void goesRound() {
        due.by("Promise 19", "REST; NONE. STATE: no ROAD.");
        due.is("a thief", on(60, at(20), "mover thief 0 1 5;").rest(), NONE);
        due.is("a thief by one yard", on(60, at(0, 2), "mover thief 0 1 1;").rest(), NONE);
        due.is("a thief whose first push is none", on(60, at(0), "mover thief 0 0 1;").rest(), NONE);
        NightStones x = on(60, at(0, 30, 50), "mover inn 0 1 5;mover thief 2 1 1;");
        due.is("one goes round, the other rests", x.rest(), NONE);
        due.is("the last stone alone", on(60, at(0, 1, 2, 3, 4, 50), "mover thief 5 1 1;").rest(), NONE);
    }

    private static void noRest() {
        due.by("Promise 19", "STATE: no ROAD.");
        NightStones x = new NightStones();
        due.is("no road", x.rest(), STATE);
        Tape.road(x, "law 10 0 0 0;;");
        due.is("none was read", x.rest(), STATE);
        Tape.road(x, "law 10 0 0 0;");
        due.is("a road", x.rest(), 0);
    }

    // Stones that stand by so much beyond what they say.
    private static void moved(int many, int set, int... beyond) {
        StringBuilder text = new StringBuilder("law 200 0 0 0;");
        StringBuilder told = new StringBuilder("beyond by");
        for (int stone = 0; stone < beyond.length; stone++) {
            int at = 90 + 4 * stone;
            text.append("stone ").append(at - beyond[stone]).append(' ').append(at).append(';');
            told.append(' ').append(beyond[stone]);
        }
        NightStones x = on(text.toString());
        due.is(told + ", how many", x.moved(0), many);
        due.is(told + ", set", x.moved(1), set);
    }

    private static void fewestLeftOut() {
        due.by("Terms 3", "MOVED: the fewest STONES to leave out");
        for (int stone = 0; stone < 6; stone++) {
            int[] beyond = new int[6];
            beyond[stone] = 1;
            moved(1, 1 << stone, beyond);
            beyond[stone] = -1;
            moved(1, 1 << stone, beyond);
        }
        moved(2, 3, 1, 2, 0, 0, 0, 0);
        moved(2, 48, 0, 0, 0, 0, 1, 2);
        moved(2, 33, 1, 0, 0, 0, 0, 1);
        moved(2, 12, 0, 0, 1, 1, 0, 0);
        moved(3, 44, 7, 7, 1, 2, 7, 3);
        moved(3, 11, 1, 2, 7, 3, 7, 7);
        moved(4, 30, 5, 1, 2, 3, 4, 5);
        moved(4, 15, 1, 2, 3, 4, 5, 5);
    }

    private static void leastOfSeveralSets() {
        due.by("Terms 3", "of several sets the least");
        moved(1, 1, 0, 1);
        moved(2, 3, 0, 1, 2);
        moved(2, 5, 0, 1, 0, 1);
        moved(2, 3, 0, 0, 1, 1);
        moved(2, 6, 1, 0, 0, 1);
        moved(3, 7, 0, 0, 0, 1, 1, 1);
        moved(3, 21, 0, 1, 0, 1, 0, 1);
        moved(3, 25, 1, 0, 0, 1, 1, 0);
        moved(4, 15, 0, 0, 1, 1, 2, 2);
        moved(4, 30, 1, 0, 2, 2, 0, 1);
        moved(4, 15, 2, 1, 2, 1, 0, 0);
    }

    private static void beyondOrShort() {
        due.by("Terms 3", "so that all others stand by as much beyond what they SAY, or short of it");
        moved(0, 0, 5, 5, 5);
        moved(0, 0, -5, -5, -5);
        moved(1, 4, 5, 5, -5);
        moved(1, 1, 5, -5, -5);
        moved(1, 1, 5, -5);
        moved(1, 2, -5, 5, -5);
        moved(2, 3, 5, 4, -5, -5);
        NightStones x = on("law 200 0 0 0;stone 200 0;stone 0 200;");
        due.is("as far as can be", x.moved(0), 1);
        due.is("the least", x.moved(1), 1);
        x = on("law 200 0 0 0;stone 0 198;stone 1 199;stone 2 200;");
        due.is("all far beyond", x.moved(0), 0);
    }

    private static void noneAndAllMoved() {
        due.by("Promise 20", "MOVED: how many (what = 0), the set (1).");
        moved(0, 0);
        moved(0, 0, 7);
        moved(0, 0, 0, 0);
        moved(0, 0, 3, 3, 3, 3, 3, 3);
        moved(5, 31, 0, 1, 2, 3, 4, 5);
        moved(5, 31, 5, 4, 3, 2, 1, 0);
    }

    private static void whereTheyStandNow() {
        due.by("Terms 3", "FORETOLD (nothing changes).");
        NightStones x = on("law 200 0 0 0;stone 10 10;stone 20 20;stone 30 30;mover inn 1 1 2;mover inn 2 1 2;");
        due.is("none", x.moved(1), 0);
        x.night();
        due.is("two moved alike", x.moved(1), 1);
        x.prove(1);
        due.is("one is home", x.moved(1), 4);
        x.undo();
        x.undo();
        due.is("none", x.moved(1), 0);
    }

    private static void choicesOfMoved() {
        due.by("Promise 20", "BAD; STATE: no ROAD (ahead of BAD).");
        NightStones x = new NightStones();
        due.is("no road", x.moved(0), STATE);
        due.is("no road", x.moved(1), STATE);
        due.is("no road, no such", x.moved(2), STATE);
        Tape.road(x, "law 10 0 0 0;");
        for (int what : outside(0, 1)) {
            due.is("what " + what, x.moved(what), BAD);
        }
    }

    private static void who(String what, NightStones x, int n, int many, int least) {
        due.is(what + ", n " + n + ", how many", x.who(n, 0), many);
        due.is(what + ", n " + n + ", least", x.who(n, 1), least);
    }

    private static void nineNightsAtMost() {
        due.by("Terms 3", "these alone push in n NIGHTS (0 to 9)");
        NightStones x = on(200, at(0), "mover inn 0 1 1;");
        who("at first", x, 0, 2, 0);
        who("at first", x, 9, 1, 0);
        for (int gone = 1; gone <= 10; gone++) {
            x.night();
            for (int n = 0; n <= 9; n++) {
                who("gone " + gone, x, n, n == gone ? 1 : 0, n == gone ? 1 : NONE);
            }
        }
        for (int n : outside(0, 9)) {
            due.is("n " + n + ", how many", x.who(n, 0), BAD);
            due.is("n " + n + ", least", x.who(n, 1), BAD);
        }
    }

    private static void setsOfMovers() {
        due.by("Terms 3", "WHO: sets of MOVERS (bits)");
        StringBuilder movers = new StringBuilder();
        for (int many = 0; many <= 5; many++) {
            NightStones x = on(100, at(10, 20, 30, 40, 50, 60), movers.toString());
            who(many + " movers", x, 0, 1 << many, 0);
            who(many + " movers", x, 1, 1, 0);
            who(many + " movers", x, 9, 1, 0);
            x.night();
            who(many + " movers, a night", x, 1, 1, (1 << many) - 1);
            who(many + " movers, a night", x, 0, many == 0 ? 1 : 0, many == 0 ? 0 : NONE);
            movers.append("mover inn ").append(many).append(" 1 1;");
        }
    }

    private static void howManySets() {
        due.by("Terms 3", "how many (0, too); the least; NONE.");
        NightStones x = on(200, at(50), "mover inn 0 1 2;mover inn 0 1 3;mover inn 0 1 5;mover inn 0 0 5;");
        x.night();
        stand(due, "by 5 from home", x, 55);
        who("three sets", x, 1, 3, 3);
        who("none", x, 0, 0, NONE);
        x = on(200, at(50), "mover inn 0 1 5;mover inn 0 0 5;");
        who("nobody, or both", x, 1, 2, 0);
        x = on(200, at(50, 60), "mover inn 0 1 1;mover inn 0 0 1;mover inn 1 1 1;");
        x.night();
        who("the last is among them", x, 1, 2, 4);
        x = on(200, at(50, 60, 70, 80, 90, 100), "mover inn 5 0 1;");
        x.night();
        who("the last stone", x, 1, 1, 1);
        who("the last stone", x, 2, 0, NONE);
    }

    private static void fromHomesOn() {
        due.by("Terms 3", "from HOMES on, from NIGHT 0");
        NightStones x = on(200, at(50), "mover thief 0 1 3;mover parish 0 1 1;");
        nights(x, 3);
        stand(due, "behind three", x, 55);
        who("all three", x, 3, 1, 3);
        x.prove(0);
        who("home again, on NIGHT 3", x, 0, 4, 0);
        who("home again, on NIGHT 3", x, 1, 1, 0);
        who("home again, on NIGHT 3", x, 2, 2, 0);
    }

    private static void whateverTheNight() {
        due.by("Terms 3", "so that STONES would stand as they do now (whatever the NIGHT is now)");
        NightStones x = on(200, at(50), "mover parish 0 1 1;");
        for (int gone = 1; gone <= 2; gone++) {
            x.night();
            who("NIGHT " + gone, x, 0, 0, NONE);
            who("NIGHT " + gone, x, 1, 1, 1);
            who("NIGHT " + gone, x, 2, 1, 1);
            who("NIGHT " + gone, x, 3, 0, NONE);
        }
        x = on(200, at(50), "mover thief 0 1 1;");
        nights(x, 11);
        who("NIGHT 11", x, 9, 1, 1);
        who("NIGHT 11", x, 8, 0, NONE);
    }

    private static void wheneverOut() {
        due.by("Terms 3", "each whenever it is out, others never");
        NightStones x = on(200, at(50), "mover inn 0 1 4;mover priest 0 1 1;");
        x.night();
        stand(due, "the priest was not out", x, 54);
        who("whether he is among them or not", x, 1, 2, 1);
        x = on(200, at(50), "mover priest 0 1 1;mover inn 0 1 4;");
        x.night();
        x.night();
        stand(due, "the priest was out once", x, 59);
        who("both", x, 2, 1, 3);
        who("none", x, 1, 0, NONE);
        x = on(200, at(50, 52), "mover inn 0 1 1;mover inn 1 1 5;");
        x.night();
        x.night();
        stand(due, "room was made", x, 52, 62);
        who("both", x, 2, 1, 3);
    }

    private static void choicesOfWho() {
        due.by("Promise 21", "WHO: how many sets (what = 0), the least (1); NONE. BAD; STATE: no ROAD (ahead of BAD).");
        NightStones x = new NightStones();
        due.is("no road", x.who(0, 0), STATE);
        due.is("no road, no such", x.who(10, 2), STATE);
        Tape.road(x, "law 10 0 0 0;");
        for (int what : outside(0, 1)) {
            due.is("what " + what, x.who(0, what), BAD);
            due.is("what " + what + ", n 9", x.who(9, what), BAD);
        }
        who("no stone, no mover", x, 9, 1, 0);
    }

    private static void dare(NightStones x, int d, long above, long below) {
        due.is("above of " + d, x.dare(d, 0), above);
        due.is("below of " + d, x.dare(d, 1), below);
    }

    private static void yardsOfADare() {
        due.by("Terms 3", "DARE of d yards (0 to 3)");
        NightStones x = on("law 60 20 0 99;");
        for (int d = 0; d <= 3; d++) {
            dare(x, d, 20 * d, 1);
        }
        for (int d : outside(0, 3)) {
            dare(x, d, BAD, BAD);
        }
    }

    private static void noYards() {
        due.by("Terms 3", "of 0 yards 0 by 1");
        for (String law : new String[] {"law 60 0 0 0;", "law 60 20 0 99;", "law 60 20 100 99;", "law 60 7 33 5;"}) {
            dare(on(law), 0, 0, 1);
        }
    }

    private static void seenAndUnseen() {
        due.by("Terms 3", "each yard is seen by SEEN of 100: if by none, it brings FEE times d, else it costs FINE");
        for (int d = 1; d <= 3; d++) {
            dare(on("law 60 7 0 99;"), d, 7 * d, 1);
            dare(on("law 60 7 100 99;"), d, -99, 1);
            dare(on("law 60 0 0 99;"), d, 0, 1);
            dare(on("law 60 20 100 0;"), d, 0, 1);
        }
        NightStones x = on("law 60 3 10 2;");
        dare(x, 1, 5, 2);
        dare(x, 2, 112, 25);
        dare(x, 3, 6019, 1000);
        x = on("law 60 8 50 8;");
        dare(x, 1, 0, 1);
        dare(x, 2, -2, 1);
        dare(x, 3, -4, 1);
    }

    private static void lowestTerms() {
        due.by("Terms", "fractions, told as two numbers in lowest terms (0 is 0 by 1)");
        dare(on("law 60 20 1 99;"), 3, 60 * 970299 - 99 * 29701, 1000000);
        dare(on("law 60 1 50 1;"), 1, 0, 1);
        dare(on("law 60 1 50 1;"), 2, -1, 4);
        dare(on("law 60 1 50 0;"), 1, 1, 2);
        dare(on("law 60 2 50 0;"), 1, 1, 1);
        dare(on("law 60 0 99 99;"), 3, -99 * 999999, 1000000);
        dare(on("law 60 0 1 1;"), 1, -1, 100);
        dare(on("law 60 0 1 1;"), 2, -199, 10000);
        dare(on("law 60 0 1 1;"), 3, -29701, 1000000);
        dare(on("law 60 1 99 0;"), 3, 3, 1000000);
        dare(on("law 60 0 37 0;"), 3, 0, 1);
    }

    private static void belowNothing() {
        due.by("Terms 3", "(above may be below 0");
        dare(on("law 60 0 25 4;"), 1, -1, 1);
        dare(on("law 60 0 25 1;"), 1, -1, 4);
        dare(on("law 60 1 50 99;"), 1, -49, 1);
        dare(on("law 60 1 50 98;"), 1, -97, 2);
        NightStones x = on("law 60 1 90 99;");
        due.holds("below is above 0", x.dare(3, 1) > 0 && x.dare(3, 0) < 0);
    }

    private static void choicesOfDare() {
        due.by("Promise 22", "DARE: above (what = 0), below (1). BAD; STATE: no ROAD (ahead of BAD).");
        NightStones x = new NightStones();
        due.is("no road", x.dare(0, 0), STATE);
        due.is("no road, no such", x.dare(4, 2), STATE);
        Tape.road(x, "law 10 0 0 0;");
        for (int what : outside(0, 1)) {
            due.is("what " + what, x.dare(0, what), BAD);
            due.is("what " + what + ", 3 yards", x.dare(3, what), BAD);
        }
    }

    private static void best(String law, int best, int fair) {
        NightStones x = on(law);
        due.is("best of " + law, x.best(0), best);
        due.is("fair of " + law, x.best(1), fair);
    }

    private static void leastOfSeveralDares() {
        due.by("Terms 3", "BEST: the d by which that is most, the least of several.");
        best("law 60 1 50 1;", 0, 1);
        best("law 60 20 100 0;", 0, 20);
        best("law 60 0 0 99;", 0, 0);
        best("law 60 20 20 60;", 1, 15);
        best("law 60 4 50 0;", 1, 0);
        best("law 60 20 25 20;", 2, 6);
    }

    private static void mostOfAll() {
        due.by("Terms 3", "BEST: the d by which that is most");
        best("law 60 20 0 99;", 3, 0);
        best("law 60 1 0 0;", 3, 0);
        best("law 60 20 100 99;", 0, 20);
        best("law 60 20 60 3;", 1, 4);
        best("law 60 20 40 3;", 2, 2);
        best("law 60 20 30 3;", 3, 1);
        // By one of a hundred more a tie is none: next to 20 of 100 for 60, to 25 of 100 for 20.
        best("law 60 20 19 60;", 2, 14);
        best("law 60 20 21 60;", 1, 15);
        best("law 60 20 24 20;", 3, 6);
        best("law 60 20 26 20;", 2, 7);
    }

    // One yard pays first: the fee is fair as long as FEE times unseen is not above FINE times seen.
    private static void greatestFee() {
        due.by("Terms 3", "FAIR: the greatest FEE (0 to 20) by which BEST is 0.");
        for (int fine = 0; fine <= 22; fine++) {
            best("law 60 0 50 " + fine + ";", 0, Math.min(fine, 20));
        }
        best("law 60 0 1 99;", 0, 1);
        best("law 60 0 1 98;", 0, 0);
        best("law 60 0 100 0;", 0, 20);
        best("law 60 0 99 1;", 0, 20);
        best("law 60 0 95 1;", 0, 19);
        best("law 60 0 96 1;", 0, 20);
        best("law 60 0 0 99;", 0, 0);
        for (int fee = 0; fee <= 20; fee++) {
            NightStones x = on("law 60 " + fee + " 50 7;");
            due.is("whatever the fee is: " + fee, x.best(1), 7);
            due.holds("by it nobody gains: " + fee, x.best(0) == 0 == fee <= 7);
        }
    }

    private static void choicesOfBest() {
        due.by("Promise 23", "BEST (what = 0), FAIR (1). BAD; STATE: no ROAD (ahead of BAD).");
        NightStones x = new NightStones();
        due.is("no road", x.best(0), STATE);
        due.is("no road", x.best(1), STATE);
        due.is("no road, no such", x.best(2), STATE);
        Tape.road(x, "law 10 0 0 0;");
        for (int what : outside(0, 1)) {
            due.is("what " + what, x.best(what), BAD);
        }
    }

    private static void numbersOfImages() {
        due.by("Promise 24", "An IMAGE (0, 1) is kept of the ROAD, with TIMES: 1. BAD; STATE: no ROAD.");
        NightStones x = new NightStones();
        due.is("no road, 0", x.image(0), STATE);
        due.is("no road, 1", x.image(1), STATE);
        Tape.road(x, "law 10 0 0 0;;");
        due.is("none was read", x.image(0), STATE);
        due.is("none was kept", x.restore(0), STATE);
        Tape.road(x, "law 10 0 0 0;");
        due.is("0", x.image(0), 1);
        due.is("1", x.image(1), 1);
        for (int k : outside(0, 1)) {
            due.is("image " + k, x.image(k), BAD);
            due.is("restore " + k, x.restore(k), BAD);
        }
    }

    private static void noImageKept() {
        due.by("Promise 25", "BAD; STATE: none was kept.");
        NightStones x = new NightStones();
        due.is("no road, 0", x.restore(0), STATE);
        due.is("no road, 1", x.restore(1), STATE);
        Tape.road(x, "law 10 0 0 0;");
        due.is("0", x.restore(0), STATE);
        due.is("1", x.restore(1), STATE);
        x.image(1);
        due.is("0 yet", x.restore(0), STATE);
        due.is("1 now", x.restore(1), 1);
        due.is("0 yet", x.restore(0), STATE);
    }

    private static void eachImageItsOwn() {
        due.by("Promise 24", "An IMAGE (0, 1) is kept of the ROAD, with TIMES");
        NightStones x = on(100, at(10, 50), "mover inn 0 1 5;");
        x.image(0);
        x.night();
        x.image(1);
        x.night();
        x.restore(0);
        stand(due, "0", x, 10, 50);
        x.restore(1);
        stand(due, "1", x, 15, 50);
        x.night();
        x.night();
        x.image(0);
        x.restore(1);
        stand(due, "1 yet", x, 15, 50);
        x.restore(0);
        stand(due, "0 is another", x, 25, 50);
        due.is("its nights", x.count(3), 3);
    }

    private static void allOfThat() {
        due.by("Promise 25", "All of that is as an IMAGE kept it");
        NightStones x = on("law 150 7 20 9;stone 3 5;stone 90 20;stone 60 100;mover thief 1 1 4;mover inn 0 0 1;");
        x.night();
        for (int k = 0; k < 12; k++) {
            x.time(0, 2, 20, 4);
        }
        x.image(0);
        due.is("another", Tape.road(x, "law 10 1 50 1;stone 9 1;stone 8 3;mover priest 0 1 2;"), 2);
        x.image(1);
        due.is("restored", x.restore(0), 1);
        int[][] told = {{3, 4, 5}, {90, 24, 20}, {60, 100, 100}};
        for (int stone = 0; stone < 3; stone++) {
            for (int what = 0; what < 3; what++) {
                due.is("stone " + stone + ", " + what, x.stone(stone, what), told[stone][what]);
            }
        }
        int[] counted = {0, 3, 2, 1, 0, 12, 0};
        for (int what = 0; what < counted.length; what++) {
            due.is("count " + what, x.count(what), counted[what]);
        }
        due.is("fee", x.carry(0, 1, 0), 7 * 87);
        dare(x, 1, 19, 5);
        due.is("least", x.ends(0, 2, 0), 80);
        due.is("most", x.ends(0, 1, 1), 98);
        due.is("full of times", x.time(0, 1, 1, 1), FULL);
        due.is("kinds", x.kind(0) * 10 + x.kind(1), 41);
        due.is("the reach of 0", x.ask(0, 0), 4 - 100);
        due.is("the reach of 1", x.ask(1, 0), 1 + 1 + 4);
        x.forget();
        due.is("length", x.ends(0, 1, 1), 149);
        due.is("NIGHT 1: a thief pushes the other way", x.night(), 3);
        stand(due, "behind NIGHT 1", x, 3, 20, 100);
        x.restore(1);
        due.is("the other", x.count(1), 2);
        due.is("its movers", x.count(2), 1);
        due.is("no third stone", x.stone(2, 0), BAD);
        due.is("no times", x.count(5), 0);
        due.is("NIGHT 0", x.count(3), 0);
    }

    private static void noActThen() {
        due.by("Promise 25", "(no ACT can be undone then)");
        NightStones x = on(100, at(10, 50), "mover inn 0 1 5;");
        x.night();
        x.image(0);
        due.is("keeping one leaves acts", x.count(4), 1);
        x.night();
        x.restore(0);
        due.is("none", x.count(4), 0);
        due.is("none is undone", x.undo(), STATE);
        stand(due, "restored", x, 15, 50);
        due.is("a night", x.night(), 1);
        due.is("one", x.count(4), 1);
        due.is("undone", x.undo(), 0);
        due.is("no more", x.undo(), STATE);
        stand(due, "restored", x, 15, 50);
    }

    private static void imageStays() {
        due.by("Promise 24", "An IMAGE (0, 1) is kept of the ROAD");
        NightStones x = on(100, at(10, 50), "mover inn 0 1 5;");
        x.time(0, 1, 20, 1);
        x.image(1);
        for (int k = 0; k < 3; k++) {
            x.night();
            x.forget();
            Tape.road(x, "law 10 0 0 0;");
            Tape.road(x, "law 10 0 0 0");
            due.is("restored once more", x.restore(1), 1);
            stand(due, "as it was kept", x, 10, 50);
            due.is("its times", x.count(5), 1);
            due.is("its night", x.count(3), 0);
        }
        Tape.road(x, "law 10 0 0 0;");
        x.image(1);
        Tape.road(x, "law 20 0 0 0;stone 0 0;");
        due.is("of a road without stones", x.restore(1), 1);
        due.is("none", x.count(1), 0);
    }

    private static void withTimes() {
        due.by("Promise 24", "with TIMES: 1");
        NightStones x = on("law 200 0 0 0;stone 0 0;stone 0 9;stone 0 20;");
        x.time(0, 1, 7, 3);
        x.time(1, 2, 9, 2);
        x.image(0);
        x.forget();
        x.image(1);
        x.time(0, 1, 1, 50);
        x.time(0, 2, 1, 99);
        x.time(1, 2, 20, 2);
        due.is("restored", x.restore(0), 1);
        due.is("two", x.count(5), 2);
        due.is("the first, least", x.ends(0, 1, 0), 21);
        due.is("the first, most", x.ends(0, 1, 1), 27);
        due.is("the second, least", x.ends(1, 2, 0), 18);
        due.is("the second, most", x.ends(1, 2, 1), 26);
        due.is("one more", x.time(1, 2, 1, 20), 3);
        due.is("by it", x.ends(1, 2, 0), 20);
        due.is("restored, none", x.restore(1), 1);
        due.is("none", x.count(5), 0);
        due.is("unbound", x.ends(0, 1, 1), 199);
    }
}
