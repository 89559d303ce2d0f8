/** The boundary sentences on NIGHTS, ACTS, PAY: part 2 of the Terms, promises 9 to 13. */
public final class EdgesOfNightsTest extends Edges {
    private static final Due due = new Due("EdgesOfNightsTest");

    private EdgesOfNightsTest() {
    }

    public static void main(String[] args) {
        asManyAsReach();
        ontoTheRoadsEnds();
        ontoNoOther();
        inOrder();
        twiceTheReach();
        evenNights();
        oddNights();
        thiefAtAnEnd();
        homeAsHisTurnComes();
        priestsWay();
        nextNight();
        firstNight();
        elsewhere();
        noRoadNoNight();
        lastCall();
        actsKept();
        oldestForgotten();
        actsWithoutChange();
        latestFirst();
        noOtherActs();
        timesStay();
        noActLeft();
        noOtherThere();
        noneBetweenOutward();
        noneBetweenInward();
        homeOrCannot();
        howFarProved();
        stonesTold();
        pay();
        went();
        carriers();
        due.close();
    }

    private static void night(String what, NightStones x, int moved, int... at) {
        due.is(what + ", bits", x.night(), moved);
        stand(due, what, x, at);
    }

    private static String inn(int stone, int way, int reach) {
        return "mover inn " + stone + " " + way + " " + reach + ";";
    }

    private static String carter(int stone, int way, int reach) {
        return inn(stone, way, reach).replace("inn", "carter");
    }

    private static void asManyAsReach() {
        due.by("Terms 2", "yard by yard, as many as REACH");
        for (int reach = 1; reach <= 5; reach++) {
            night("outward " + reach, on(100, at(50), inn(0, 1, reach)), 1, 50 + reach);
            night("inward " + reach, on(100, at(50), inn(0, 0, reach)), 1, 50 - reach);
        }
    }

    private static void ontoTheRoadsEnds() {
        due.by("Terms 2", "as long as it stays on the road, 0 to LENGTH");
        for (int length : new int[] {10, 11, 199, 200}) {
            for (int left = 0; left <= 6; left++) {
                int went = Math.min(left, 5);
                int bits = left == 0 ? 0 : 1;
                night("inward from " + left, on(length, at(left), inn(0, 0, 5)), bits, left - went);
                night("outward, left " + left, on(length, at(length - left), inn(0, 1, 5)), bits, length - left + went);
            }
        }
        NightStones x = on(10, at(0, 10), inn(0, 0, 1) + inn(1, 1, 1));
        night("at both ends", x, 0, 0, 10);
        night("at both ends yet", x, 0, 0, 10);
    }

    private static void ontoNoOther() {
        due.by("Terms 2", "and comes onto no other STONE");
        for (int apart = 1; apart <= 12; apart++) {
            int went = Math.min(apart - 1, 5);
            int far = Math.min(apart - 1, 10);
            int bit = apart == 1 ? 0 : 1;
            night("out, apart " + apart, on(100, at(50, 50 + apart), inn(0, 1, 5)), bit, 50 + went, 50 + apart);
            night("in, apart " + apart, on(100, at(50, 50 + apart), inn(1, 0, 5)), 2 * bit, 50, 50 + apart - went);
            night("carter out, apart " + apart, on(100, at(50, 50 + apart), carter(0, 1, 5)), bit, 50 + far, 50 + apart);
            night("carter in, apart " + apart, on(100, at(50, 50 + apart), carter(1, 0, 5)), 2 * bit, 50,
                50 + apart - far);
        }
        night("six in a row", on(10, at(0, 1, 2, 3, 4, 5), inn(0, 1, 5) + inn(1, 0, 5) + inn(4, 1, 5) + inn(3, 0, 5)),
            0, 0, 1, 2, 3, 4, 5);
    }

    private static void inOrder() {
        due.by("Terms 2", "each MOVER who is out, in order, pushes his STONE his WAY");
        night("the first makes room", on(20, at(9, 10), inn(1, 1, 3) + inn(0, 1, 5)), 3, 12, 13);
        night("the first has none", on(20, at(9, 10), inn(0, 1, 5) + inn(1, 1, 3)), 2, 9, 13);
        night("five on one", on(100, at(50), inn(0, 1, 1) + inn(0, 1, 2) + inn(0, 1, 3) + inn(0, 1, 4) + inn(0, 1, 5)),
            1, 65);
        night("out, then in from the end", on(10, at(8), inn(0, 1, 5) + inn(0, 0, 5)), 1, 5);
        night("in, then out", on(10, at(8), inn(0, 0, 5) + inn(0, 1, 5)), 0, 8);
        night("two push one between them", on(60, at(5, 20, 40), inn(0, 1, 5) + inn(2, 0, 5) + inn(1, 1, 4)
            + inn(1, 0, 3)), 7, 10, 21, 35);
    }

    private static void twiceTheReach() {
        due.by("Terms 2", "A carter goes twice his REACH");
        for (int reach = 1; reach <= 5; reach++) {
            night("outward " + reach, on(100, at(50), carter(0, 1, reach)), 1, 50 + 2 * reach);
            night("inward " + reach, on(100, at(50), carter(0, 0, reach)), 1, 50 - 2 * reach);
        }
        for (int left = 8; left <= 12; left++) {
            night("left " + left, on(100, at(100 - left), carter(0, 1, 5)), 1, 100 - left + Math.min(left, 10));
            night("inward from " + left, on(100, at(left), carter(0, 0, 5)), 1, left - Math.min(left, 10));
        }
    }

    private static void evenNights() {
        due.by("Terms 2", "a parish is out on even NIGHTS alone");
        NightStones x = on(100, at(50), "mover parish 0 1 5;");
        int[] stood = {55, 55, 60, 60, 65, 65};
        for (int n = 0; n < stood.length; n++) {
            night("NIGHT " + n, x, n % 2 == 0 ? 1 : 0, stood[n]);
        }
        x.undo();
        x.undo();
        night("NIGHT 4 again", x, 1, 65);
        night("NIGHT 5 again", x, 0, 65);
    }

    private static void oddNights() {
        due.by("Terms 2", "a thief pushes the other WAY on odd NIGHTS");
        NightStones x = on(100, at(50), "mover thief 0 1 3;");
        NightStones y = on(100, at(50), "mover thief 0 0 3;");
        for (int n = 0; n < 6; n++) {
            night("outward, NIGHT " + n, x, 1, n % 2 == 0 ? 53 : 50);
            night("inward, NIGHT " + n, y, 1, n % 2 == 0 ? 47 : 50);
        }
    }

    private static void thiefAtAnEnd() {
        due.by("Terms 2", "as long as it stays on the road, 0 to LENGTH");
        NightStones x = on(10, at(0, 9), "mover thief 0 0 2;mover thief 1 1 3;");
        night("NIGHT 0", x, 2, 0, 10);
        night("NIGHT 1", x, 3, 2, 7);
        night("NIGHT 2", x, 3, 0, 10);
    }

    private static void homeAsHisTurnComes() {
        due.by("Terms 2", "a priest is not out, if his STONE is not HOME as his turn comes");
        NightStones x = on(100, at(50), "mover priest 0 1 2;");
        night("at home", x, 1, 52);
        night("no more", x, 0, 52);
        due.is("proved", x.prove(0), 2);
        night("home again", x, 1, 52);
        night("moved ahead of him", on(100, at(50), inn(0, 1, 5) + "mover priest 0 1 2;"), 1, 55);
        night("moved and moved back", on(100, at(50), inn(0, 1, 5) + inn(0, 0, 5) + "mover priest 0 1 2;"), 1, 52);
        night("moved behind him", on(100, at(50), "mover priest 0 1 2;" + inn(0, 1, 5)), 1, 57);
        night("two priests", on(100, at(50), "mover priest 0 1 2;mover priest 0 1 3;"), 1, 52);
        night("another's stone is not home", on(100, at(50, 60), inn(0, 0, 1) + "mover priest 1 1 2;"), 3, 49, 62);
        x = on(100, at(0), "mover priest 0 0 2;" + inn(0, 1, 1));
        night("his push is none", x, 1, 1);
        night("one from home", x, 1, 2);
    }

    private static void priestsWay() {
        due.by("Terms 3", "(but pushes his WAY always)");
        NightStones x = on(100, at(50), "mover priest 0 1 2;");
        for (int n = 0; n < 4; n++) {
            night("NIGHT " + n, x, 1, 52);
            x.prove(0);
        }
    }

    private static void nextNight() {
        due.by("Terms 2", "Then it is the next NIGHT.");
        NightStones x = on("law 10 0 0 0;");
        for (int n = 0; n < 30; n++) {
            due.is("gone ahead of NIGHT " + n, x.count(3), n);
            due.is("NIGHT " + n, x.night(), 0);
        }
        due.is("gone", x.count(3), 30);
    }

    private static void firstNight() {
        due.by("Terms 2", "In a NIGHT (the first is NIGHT 0)");
        NightStones x = on(100, at(50), "mover parish 0 1 5;");
        due.is("none is gone", x.count(3), 0);
        night("it is even", x, 1, 55);
        due.is("one is gone", x.count(3), 1);
        x.undo();
        due.is("it is the first again", x.count(3), 0);
        night("it is even again", x, 1, 55);
        Tape.road(x, "law 100 1 1 1;stone 0 50;mover thief 0 1 5;");
        night("of another road", x, 1, 55);
    }

    private static void elsewhere() {
        due.by("Promise 9", "A NIGHT: STONES (bits) that stand elsewhere behind it.");
        int[] six = at(10, 20, 30, 40, 50, 60);
        night("no stone", on("law 10 0 0 0;"), 0);
        night("no mover", on(100, six, ""), 0, six);
        for (int stone = 0; stone < 6; stone++) {
            due.is("stone " + stone, on(100, six, inn(stone, 1, 1)).night(), 1 << stone);
        }
        due.is("all but the last", on(100, six, inn(0, 1, 1) + inn(1, 0, 2) + inn(2, 1, 3) + inn(3, 0, 4)
            + inn(4, 1, 5)).night(), 31);
        due.is("all but the first", on(100, six, inn(5, 1, 1) + inn(4, 0, 2) + inn(3, 1, 3) + inn(2, 0, 4)
            + inn(1, 1, 5)).night(), 62);
        due.is("there and back", on(100, six, inn(5, 1, 4) + inn(5, 0, 4) + inn(0, 1, 4)).night(), 1);
        NightStones x = on(12, at(10, 11), inn(1, 1, 1));
        due.is("behind it", x.night(), 2);
        due.is("behind the next", x.night(), 0);
    }

    private static void noRoadNoNight() {
        due.by("Promise 9", "STATE: no ROAD");
        NightStones x = new NightStones();
        due.is("at first", x.night(), STATE);
        Tape.road(x, "law 10 0 0 0");
        due.is("behind a fault", x.night(), STATE);
        due.is("none gone", x.count(3), 0);
        due.is("no act", x.count(4), 0);
        Tape.road(x, "law 10 0 0 0;");
        due.is("on a road", x.night(), 0);
    }

    // FULL, "9999 are gone", is out of reach: of 512 calls three at least make the road.
    private static void lastCall() {
        due.by("What it is", "An object is used for at most 512 calls after it has been made");
        NightStones x = new NightStones();
        x.feed(Tape.packed("law10 0 "), 8);
        x.feed(Tape.packed("0 0;"), 4);
        x.road();
        for (int call = 4; call <= 511; call++) {
            due.is("call " + call, x.night(), 0);
        }
        due.is("call 512: nights gone", x.count(3), 508);
        x = on("law 200 1 1 1;stone 0 50;mover thief 0 1 1;");
        for (int call = 9; call <= 510; call++) {
            due.is("call " + call, x.night(), 1);
        }
        due.is("call 511: undone", x.undo(), 23);
        due.is("call 512: where it stands", x.stone(0, 1), 51);
    }

    private static void actsKept() {
        due.by("Terms 2", "ACTS (24 at most are kept, of more the oldest is forgotten");
        for (int n : new int[] {1, 23, 24, 25, 26, 48, 49}) {
            NightStones x = on(200, at(0), inn(0, 1, 1));
            for (int k = 1; k <= n; k++) {
                x.night();
                due.is("kept of " + k, x.count(4), Math.min(k, 24));
            }
            int kept = Math.min(n, 24);
            for (int k = 1; k <= kept; k++) {
                due.is("of " + n + ", yet", x.undo(), kept - k);
                due.is("of " + n + ", gone", x.count(3), n - k);
                due.is("of " + n + ", stands", x.stone(0, 1), n - k);
            }
            due.is("of " + n + ", no more", x.undo(), STATE);
            due.is("of " + n + ", the oldest are forgotten", x.stone(0, 1), n - kept);
        }
    }

    private static void oldestForgotten() {
        due.by("Terms 2", "of more the oldest is forgotten");
        NightStones x = on(200, at(7, 100), inn(0, 1, 1));
        nights(x, 5);
        due.is("proved", x.prove(0), 5);
        nights(x, 23);
        due.is("kept", x.count(4), 24);
        for (int k = 23; k >= 1; k--) {
            due.is("a night undone", x.undo(), k);
        }
        stand(due, "home, where it was proved", x, 7, 100);
        due.is("the proof undone", x.undo(), 0);
        stand(due, "not home", x, 12, 100);
        due.is("nights", x.count(3), 5);
        due.is("no more", x.undo(), STATE);
        nights(x, 1);
        due.is("kept anew", x.count(4), 1);
        due.is("undone anew", x.undo(), 0);
        nights(x, 24);
        due.is("one undone of 24", x.undo(), 23);
        nights(x, 2);
        due.is("24 again", x.count(4), 24);
        for (int k = 23; k >= 0; k--) {
            due.is("undone", x.undo(), k);
        }
        stand(due, "the oldest is forgotten", x, 13, 100);
        due.is("its night stays", x.count(3), 6);
    }

    private static void actsWithoutChange() {
        due.by("Terms 2", "also such by which nothing becomes another");
        NightStones x = on(100, at(0), inn(0, 0, 1));
        for (int k = 1; k <= 25; k++) {
            due.is("nothing moves", x.night(), 0);
            due.is("kept", x.count(4), Math.min(k, 24));
        }
        for (int k = 23; k >= 0; k--) {
            due.is("undone", x.undo(), k);
            due.is("its night too", x.count(3), k + 1);
        }
        due.is("no more", x.undo(), STATE);
        due.is("the first night is gone", x.count(3), 1);
    }

    private static void latestFirst() {
        due.by("Promise 11", "The latest ACT is undone (TIMES stay): how many can be undone yet.");
        NightStones x = on(100, at(10, 50), inn(0, 1, 2) + "mover thief 1 1 5;");
        x.night();
        x.prove(1);
        x.night();
        x.prove(0);
        stand(due, "ahead", x, 10, 45);
        due.is("the proof of 0", x.undo(), 3);
        stand(due, "not proved", x, 14, 45);
        due.is("nights", x.count(3), 2);
        due.is("NIGHT 1", x.undo(), 2);
        stand(due, "ahead of NIGHT 1", x, 12, 50);
        due.is("nights", x.count(3), 1);
        due.is("the proof of 1", x.undo(), 1);
        stand(due, "ahead of it", x, 12, 55);
        due.is("NIGHT 0", x.undo(), 0);
        stand(due, "at first", x, 10, 50);
        due.is("nights", x.count(3), 0);
    }

    private static void noOtherActs() {
        due.by("Terms 2", "each can be undone, the latest first");
        NightStones x = on(100, at(10, 50), inn(0, 1, 2));
        x.prove(0);
        x.time(0, 1, 1, 1);
        x.forget();
        x.row(0, 0, 1);
        x.set(0, 0, 1);
        x.image(0);
        x.ask(0, 1);
        x.as(0, 1);
        Tape.road(x, "law");
        due.is("none of these is an act", x.count(4), 0);
        due.is("nothing to undo", x.undo(), STATE);
        x.night();
        x.undo();
        due.is("nor is undoing one", x.undo(), STATE);
        x.night();
        x.restore(0);
        due.is("none behind an image", x.undo(), STATE);
    }

    private static void timesStay() {
        due.by("Promise 11", "(TIMES stay)");
        NightStones x = on(100, at(10, 50), inn(0, 1, 2));
        x.time(0, 1, 5, 4);
        x.night();
        x.time(0, 1, 7, 3);
        due.is("undone", x.undo(), 0);
        due.is("both", x.count(5), 2);
        due.is("least", x.ends(0, 1, 0), 21);
        due.is("most", x.ends(0, 1, 1), 24);
        x.night();
        x.forget();
        x.undo();
        due.is("forgotten stay so", x.count(5), 0);
        due.is("unbound", x.ends(0, 1, 1), 100);
    }

    private static void noActLeft() {
        due.by("Promise 11", "STATE: none.");
        NightStones x = new NightStones();
        due.is("no road", x.undo(), STATE);
        Tape.road(x, "law 100 1 1 1;stone 0 9;" + inn(0, 1, 1));
        due.is("none yet", x.undo(), STATE);
        x.night();
        due.is("the one", x.undo(), 0);
        due.is("none left", x.undo(), STATE);
        stand(due, "as at first", x, 9);
        due.is("nights", x.count(3), 0);
    }

    private static void noOtherThere() {
        due.by("Terms 2", "a STONE is PROVED: it comes HOME, if no other STONE is there");
        NightStones x = on(200, at(10, 20), carter(1, 1, 5) + carter(0, 1, 5));
        night("the one ahead is there", x, 3, 20, 30);
        due.is("it cannot", x.prove(1), STATE);
        stand(due, "it stays", x, 20, 30);
        due.is("the one ahead can", x.prove(0), 10);
        due.is("then it can", x.prove(1), 10);
        x = on(200, at(30, 40), carter(0, 0, 5) + carter(1, 0, 5));
        night("the one behind is there", x, 3, 20, 30);
        due.is("it cannot", x.prove(0), STATE);
        stand(due, "it stays", x, 20, 30);
        due.is("the one behind can", x.prove(1), 10);
        due.is("then it can", x.prove(0), 10);
    }

    // How far the one ahead has come: 19 is one short of HOME, 20 on it, from 21 on between, 29 next to the other.
    private static void noneBetweenOutward() {
        due.by("Terms 2", "and none is between");
        String[] told = {carter(0, 1, 4) + inn(0, 1, 1), carter(0, 1, 5), carter(0, 1, 5) + inn(0, 1, 1),
            carter(0, 1, 5) + carter(0, 1, 4) + inn(0, 1, 1)};
        int[] ahead = {19, 20, 21, 29};
        for (int k = 0; k < told.length; k++) {
            NightStones x = on(200, at(10, 20), carter(1, 1, 5) + told[k]);
            x.night();
            stand(due, "ahead", x, ahead[k], 30);
            due.is("one at " + ahead[k], x.prove(1), k == 0 ? 10 : STATE);
            stand(due, "behind", x, ahead[k], k == 0 ? 20 : 30);
            due.is("acts", x.count(4), k == 0 ? 2 : 1);
            due.is("that one itself", x.prove(0), ahead[k] - 10);
        }
    }

    private static void noneBetweenInward() {
        due.by("Terms 2", "and none is between");
        String[] told = {carter(1, 0, 4) + inn(1, 0, 1), carter(1, 0, 5), carter(1, 0, 5) + inn(1, 0, 1),
            carter(1, 0, 5) + carter(1, 0, 4) + inn(1, 0, 1)};
        int[] behind = {31, 30, 29, 21};
        for (int k = 0; k < told.length; k++) {
            NightStones x = on(200, at(30, 40), carter(0, 0, 5) + told[k]);
            x.night();
            stand(due, "ahead", x, 20, behind[k]);
            due.is("one at " + behind[k], x.prove(0), k == 0 ? 10 : STATE);
            stand(due, "behind", x, k == 0 ? 30 : 20, behind[k]);
            due.is("acts", x.count(4), k == 0 ? 2 : 1);
            due.is("that one itself", x.prove(1), 40 - behind[k]);
        }
    }

    private static void homeOrCannot() {
        due.by("Promise 10", "PROVED: how far it was from HOME. BAD; STATE: it is HOME, or cannot.");
        NightStones x = on(100, at(10, 50), inn(1, 1, 5) + "mover thief 0 1 5;");
        due.is("home at first", x.prove(0), STATE);
        due.is("the last, home", x.prove(1), STATE);
        x.night();
        x.night();
        due.is("home, there and back", x.prove(0), STATE);
        due.is("the last", x.prove(1), 10);
        due.is("home then", x.prove(1), STATE);
        due.is("acts", x.count(4), 3);
        for (int stone : outside(0, 1)) {
            due.is("stone " + stone, x.prove(stone), BAD);
        }
        due.is("no road", new NightStones().prove(0), BAD);
        due.is("no stone", on("law 10 0 0 0;").prove(0), BAD);
    }

    private static void howFarProved() {
        due.by("Promise 10", "PROVED: how far it was from HOME.");
        NightStones x = on(200, at(0), inn(0, 1, 1));
        x.night();
        due.is("one yard", x.prove(0), 1);
        x = on(200, at(0), carter(0, 1, 5));
        nights(x, 20);
        due.is("the whole road, inward", x.prove(0), 200);
        stand(due, "home", x, 0);
        due.is("NIGHTS stay", x.count(3), 20);
        x = on(200, at(200), carter(0, 0, 5));
        nights(x, 21);
        due.is("the whole road, outward", x.prove(0), 200);
        stand(due, "home", x, 200);
    }

    private static void stonesTold() {
        due.by("Promise 12", "Of a STONE: 0 what it SAYS, 1 where it stands, 2 its HOME. BAD.");
        NightStones x = on("law 200 1 1 1;stone 200 0;stone 0 1;stone 7 2;stone 6 3;stone 5 4;stone 4 200;"
            + inn(5, 0, 5));
        x.night();
        int[][] told = {{200, 0, 0}, {0, 1, 1}, {7, 2, 2}, {6, 3, 3}, {5, 4, 4}, {4, 195, 200}};
        for (int stone = 0; stone < 6; stone++) {
            for (int what = 0; what <= 2; what++) {
                due.is("stone " + stone + ", " + what, x.stone(stone, what), told[stone][what]);
            }
            for (int what : outside(0, 2)) {
                due.is("stone " + stone + ", " + what, x.stone(stone, what), BAD);
            }
        }
        for (int stone : outside(0, 5)) {
            due.is("stone " + stone, x.stone(stone, 0), BAD);
        }
        due.is("no stone", on("law 10 0 0 0;").stone(0, 0), BAD);
        due.is("no road", new NightStones().stone(0, 0), BAD);
    }

    private static void pay() {
        due.by("Terms 2", "PAY from STONE to STONE: FEE times by how much what they SAY differs");
        NightStones x = on("law 200 20 1 1;stone 200 0;stone 0 1;stone 0 2;stone 1 3;");
        due.is("the most", x.carry(0, 1, 0), 4000);
        due.is("the most, back", x.carry(1, 0, 0), 4000);
        due.is("both say 0", x.carry(1, 2, 0), 0);
        due.is("one more", x.carry(1, 3, 0), 20);
        due.is("itself", x.carry(0, 0, 0), 0);
        due.is("for no fee", on("law 200 0 1 1;stone 200 0;stone 0 1;").carry(0, 1, 0), 0);
    }

    private static void went() {
        due.by("Terms 2", "WENT: by how much where they stand differs.");
        NightStones x = on(200, at(0, 1, 200), inn(1, 1, 5));
        due.is("the most", x.carry(0, 2, 1), 200);
        due.is("the most, back", x.carry(2, 0, 1), 200);
        due.is("the least", x.carry(0, 1, 1), 1);
        due.is("itself", x.carry(2, 2, 1), 0);
        x.night();
        due.is("where they stand, no HOMES", x.carry(0, 1, 1), 6);
    }

    private static void carriers() {
        due.by("Promise 13", "PAY (what = 0), WENT (1) from STONE to STONE. BAD.");
        NightStones x = on("law 200 20 1 1;" + SIX);
        due.is("the last to the first", x.carry(5, 0, 1), 5);
        for (int stone : outside(0, 5)) {
            due.is("from " + stone, x.carry(stone, 0, 0), BAD);
            due.is("to " + stone, x.carry(0, stone, 0), BAD);
            due.is("from " + stone, x.carry(stone, 0, 1), BAD);
            due.is("to " + stone, x.carry(0, stone, 1), BAD);
        }
        for (int what : outside(0, 1)) {
            due.is("what " + what, x.carry(0, 1, what), BAD);
        }
        due.is("no stone", on("law 10 0 0 0;").carry(0, 0, 0), BAD);
    }
}
