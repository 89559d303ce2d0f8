/** The boundary sentences on TIMES: part 2 of the Terms, promises 14 to 18. */
public final class EdgesOfTimesTest extends Edges {
    private static final Due due = new Due("EdgesOfTimesTest");
    private static final String TWO = "law 200 1 1 1;stone 0 0;stone 0 9;";
    private static final String CROWDED = "law 10 1 1 1;" + SIX;

    private EdgesOfTimesTest() {
    }

    public static void main(String[] args) {
        twelveTimes();
        paces();
        hours();
        fartherOnes();
        atLeastAndLess();
        farHours();
        cutTowardsNone();
        onTheRoad();
        oneBehindTheOther();
        byAllTogether();
        chains();
        whereverTheyStand();
        noWayDoes();
        timesOneMore();
        noThirteenth();
        timesFromARow();
        badRowsAndNumbers();
        placesOfTimes();
        farPlacesOfTimes();
        itemsNotAsTold();
        allOrNone();
        twelveFromRows();
        lanesOfTimes();
        noRoad();
        forgotten();
        pairsOfEnds();
        fewerThanTwo();
        farthestFromOneAnother();
        firstOfSeveral();
        widestWithoutAWay();
        due.close();
    }

    private static void ends(String what, NightStones x, int a, int b, int least, int most) {
        due.is(what + ", least of " + a + ", " + b, x.ends(a, b, 0), least);
        due.is(what + ", most of " + a + ", " + b, x.ends(a, b, 1), most);
    }

    private static void twelveTimes() {
        due.by("Terms 2", "TIMES (12 at most)");
        NightStones x = on(TWO);
        for (int k = 1; k <= 12; k++) {
            due.is("one more", x.time(0, 1, 1, 9), k);
        }
        due.is("the thirteenth", x.time(0, 1, 1, 9), FULL);
        due.is("that would be none", x.time(0, 1, 20, 99), FULL);
        due.is("it did not come", x.count(5), 12);
        ends("it did not come", x, 0, 1, 9, 9);
        due.is("forgotten", x.forget(), 12);
        due.is("the first again", x.time(0, 1, 1, 8), 1);
        ends("the first again", x, 0, 1, 8, 8);
        for (int k = 2; k <= 11; k++) {
            x.time(0, 1, 10, 0);
        }
        due.is("the twelfth counts, too", x.time(0, 1, 1, 9), 12);
        ends("by it no way does", x, 0, 1, NONE, NONE);
    }

    private static void paces() {
        due.by("Terms 2", "somebody at PACE v (1 to 20)");
        NightStones x = on(TWO);
        due.is("1", x.time(0, 1, 1, 7), 1);
        ends("1", x, 0, 1, 7, 7);
        x.forget();
        due.is("20", x.time(0, 1, 20, 7), 1);
        ends("20", x, 0, 1, 140, 159);
        for (int v : outside(1, 20)) {
            due.is("pace " + v, x.time(0, 1, v, 1), BAD);
            due.is("pace " + v + ", no hours", x.time(0, 1, v, 0), BAD);
        }
        due.is("none came", x.count(5), 1);
    }

    private static void hours() {
        due.by("Terms 2", "needed t HOURS (0 to 99)");
        NightStones x = on(TWO);
        due.is("0", x.time(0, 1, 5, 0), 1);
        ends("0", x, 0, 1, 1, 4);
        x.forget();
        due.is("99", x.time(0, 1, 1, 99), 1);
        ends("99", x, 0, 1, 99, 99);
        for (int t : outside(0, 99)) {
            due.is("hours " + t, x.time(0, 1, 1, t), BAD);
        }
        due.is("none came", x.count(5), 1);
    }

    private static void fartherOnes() {
        due.by("Promise 14", "BAD: STONES (b no farther than a), v, t");
        NightStones x = on(CROWDED);
        int taken = 0;
        for (int a = -1; a <= 6; a++) {
            for (int b = -1; b <= 6; b++) {
                if (a >= 0 && b <= 5 && a < b) {
                    taken++;
                    due.is("from " + a + " to " + b, x.time(a, b, 20, 0), taken > 12 ? FULL : taken);
                } else {
                    due.is("from " + a + " to " + b, x.time(a, b, 20, 0), BAD);
                }
            }
        }
        x.forget();
        due.is("the last two", x.time(4, 5, 20, 0), 1);
        for (int stone : outside(0, 5)) {
            due.is("from " + stone, x.time(stone, 5, 20, 0), BAD);
            due.is("to " + stone, x.time(0, stone, 20, 0), BAD);
        }
        due.is("no road", new NightStones().time(0, 1, 1, 1), BAD);
        due.is("one stone", on("law 10 0 0 0;stone 0 0;").time(0, 1, 1, 1), BAD);
        due.is("one stone, itself", on("law 10 0 0 0;stone 0 0;").time(0, 0, 1, 1), BAD);
    }

    private static void atLeastAndLess() {
        due.by("Terms 2", "these stood v t apart at least, less than v (t and 1)");
        for (int v = 1; v <= 20; v++) {
            NightStones x = on(TWO);
            for (int t = 0; t <= 12; t++) {
                int least = Math.max(1, v * t);
                int most = Math.min(200, v * (t + 1) - 1);
                boolean no = least > most;
                x.time(0, 1, v, t);
                ends("at " + v + " in " + t, x, 0, 1, no ? NONE : least, no ? NONE : most);
                x.forget();
            }
        }
    }

    private static void farHours() {
        due.by("Terms 2", "somebody at PACE v (1 to 20) needed t HOURS (0 to 99), cut");
        int[][] told = {{1, 99, 99, 99}, {2, 99, 198, 199}, {3, 66, 198, 200}, {3, 67, NONE, NONE}, {3, 99, NONE, NONE},
            {20, 9, 180, 199}, {20, 10, 200, 200}, {20, 11, NONE, NONE}, {20, 99, NONE, NONE}, {2, 0, 1, 1},
            {1, 0, NONE, NONE}, {1, 1, 1, 1}, {20, 0, 1, 19}};
        for (int[] one : told) {
            NightStones x = on(TWO);
            due.is("is taken", x.time(0, 1, one[0], one[1]), 1);
            ends("at " + one[0] + " in " + one[1], x, 0, 1, one[2], one[3]);
        }
    }

    // What HOURS a way of so many yards takes: no others fit it.
    private static void cutTowardsNone() {
        due.by("Terms", "All that is divided is cut towards 0");
        for (int v = 1; v <= 20; v++) {
            NightStones x = on(TWO);
            for (int apart : new int[] {1, v - 1, v, v + 1, 2 * v - 1, 2 * v, 99}) {
                for (int more = -1; more <= 1; more++) {
                    int t = apart / v + more;
                    if (apart > 0 && t >= 0 && t <= 99) {
                        x.time(0, 1, 1, apart);
                        x.time(0, 1, v, t);
                        due.is(apart + " at " + v + " in " + t, x.ends(0, 1, 0), more == 0 ? apart : NONE);
                        x.forget();
                    }
                }
            }
        }
    }

    private static void onTheRoad() {
        due.by("Terms 2", "each STONE at 0 to LENGTH");
        for (int length : new int[] {10, 200}) {
            NightStones x = on("law " + length + " 1 1 1;stone 0 4;stone 0 6;");
            ends("of " + length, x, 0, 1, 1, length);
            x.time(0, 1, 10, length / 10);
            ends("of " + length + ", to the end", x, 0, 1, length, length);
        }
        NightStones x = on("law 11 1 1 1;stone 0 4;stone 0 6;");
        x.time(0, 1, 4, 2);
        ends("8 to 11, the road's end", x, 0, 1, 8, 11);
        x.forget();
        x.time(0, 1, 12, 1);
        ends("12, one beyond", x, 0, 1, NONE, NONE);
        x.forget();
        x.time(0, 1, 11, 1);
        ends("11, at the end", x, 0, 1, 11, 11);
    }

    private static void oneBehindTheOther() {
        due.by("Terms 2", "each at least 1 behind the one ahead");
        NightStones x = on(CROWDED);
        for (int a = 0; a < 6; a++) {
            for (int b = a + 1; b < 6; b++) {
                ends("unbound", x, a, b, b - a, 5 + b - a);
            }
        }
        x.time(0, 5, 1, 5);
        for (int a = 0; a < 6; a++) {
            for (int b = a + 1; b < 6; b++) {
                ends("each one behind the other", x, a, b, b - a, b - a);
            }
        }
        x.forget();
        x.time(0, 5, 1, 4);
        ends("one too near", x, 0, 5, NONE, NONE);
        x.forget();
        x.time(2, 3, 6, 1);
        ends("all the room there is", x, 2, 3, 6, 6);
        ends("none for the others", x, 4, 5, 1, 1);
        x.forget();
        x.time(2, 3, 7, 1);
        ends("no room for the others", x, 2, 3, NONE, NONE);
    }

    private static void byAllTogether() {
        due.by("Terms 2", "by all TIMES together, in whole yards");
        NightStones x = on(TWO);
        x.time(0, 1, 3, 3);
        x.time(0, 1, 5, 1);
        ends("9 to 11, 5 to 9", x, 0, 1, 9, 9);
        x.forget();
        x.time(0, 1, 2, 5);
        x.time(0, 1, 5, 1);
        ends("10 to 11, 5 to 9", x, 0, 1, NONE, NONE);
        x.forget();
        x.time(0, 1, 7, 3);
        x.time(0, 1, 7, 3);
        ends("the same twice", x, 0, 1, 21, 27);
        x.time(0, 1, 20, 1);
        ends("a wider one", x, 0, 1, 21, 27);
        x.time(0, 1, 13, 2);
        ends("a higher one", x, 0, 1, 26, 27);
    }

    private static void chains() {
        due.by("Terms 2", "ENDS of two STONES: the least and the most that they can have stood apart, by all TIMES together");
        String three = "law 10 1 1 1;stone 0 0;stone 0 1;stone 0 2;";
        NightStones x = on(three);
        x.time(0, 1, 5, 1);
        x.time(1, 2, 5, 1);
        ends("5 and 5 of 10", x, 0, 2, 10, 10);
        ends("5 and 5 of 10", x, 0, 1, 5, 5);
        x.forget();
        x.time(0, 1, 6, 1);
        x.time(1, 2, 5, 1);
        ends("6 and 5 of 10", x, 0, 1, NONE, NONE);
        x.forget();
        x.time(0, 1, 5, 0);
        x.time(1, 2, 5, 0);
        ends("at most 4 and 4", x, 0, 2, 2, 8);
        x.time(0, 2, 8, 1);
        ends("8 then", x, 1, 2, 4, 4);
        x.time(0, 2, 9, 1);
        ends("9 then", x, 1, 2, NONE, NONE);
        x.forget();
        x.time(0, 2, 1, 10);
        x.time(0, 1, 3, 1);
        ends("what is left of 10", x, 1, 2, 5, 7);
        x = on("law 200 1 1 1;stone 0 0;stone 0 1;stone 0 2;stone 0 3;");
        x.time(0, 2, 1, 10);
        x.time(1, 3, 1, 10);
        x.time(1, 2, 1, 4);
        ends("across", x, 0, 1, 6, 6);
        ends("across", x, 2, 3, 6, 6);
        ends("across", x, 0, 3, 16, 16);
    }

    private static void whereverTheyStand() {
        due.by("Terms 2", "that they can have stood apart, by all TIMES together");
        NightStones x = on("law 60 1 1 1;stone 50 3;stone 60 9;mover inn 1 1 5;");
        ends("not by where they stand", x, 0, 1, 1, 60);
        x.time(0, 1, 20, 2);
        x.night();
        x.prove(1);
        ends("nor by nights", x, 0, 1, 40, 59);
    }

    private static void noWayDoes() {
        due.by("Terms 2", "NONE: no way does.");
        NightStones x = on(CROWDED);
        x.time(0, 1, 1, 0);
        for (int a = 0; a < 6; a++) {
            for (int b = a + 1; b < 6; b++) {
                ends("no way for any", x, a, b, NONE, NONE);
            }
        }
        due.is("another does not help", x.time(2, 3, 2, 1), 2);
        ends("not those", x, 2, 3, NONE, NONE);
        x.forget();
        ends("forgotten", x, 0, 1, 1, 6);
        x.time(4, 5, 7, 1);
        ends("by the last two", x, 0, 1, NONE, NONE);
    }

    private static void timesOneMore() {
        due.by("Promise 14", "TIMES one more: how many.");
        NightStones x = on(CROWDED);
        due.is("none", x.count(5), 0);
        due.is("one", x.time(0, 1, 20, 0), 1);
        due.is("one", x.count(5), 1);
        due.is("refused", x.time(0, 1, 21, 0), BAD);
        due.is("one yet", x.count(5), 1);
        due.is("two", x.time(0, 1, 20, 0), 2);
    }

    private static void noThirteenth() {
        due.by("Promise 14", "FULL: 12.");
        NightStones x = on(CROWDED);
        for (int k = 1; k <= 11; k++) {
            x.time(k % 5, 5, 20, 0);
        }
        due.is("the twelfth", x.time(4, 5, 20, 0), 12);
        due.is("a thirteenth", x.time(4, 5, 20, 0), FULL);
        due.is("of others", x.time(0, 1, 1, 99), FULL);
        due.is("twelve yet", x.count(5), 12);
        ends("as they were", x, 0, 1, 1, 6);
    }

    private static NightStones withRow(int lane, int size) {
        NightStones x = on("law 200 1 1 1;stone 0 0;stone 0 9;stone 0 20;");
        x.row(0, lane, size);
        for (int k = 0; 4 * k + 3 < size; k++) {
            put(x, 0, 4 * k, 0, 1, 9, 3);
        }
        return x;
    }

    private static void timesFromARow() {
        due.by("Promise 15", "n TIMES (1 to 10) from a ROW");
        NightStones x = withRow(0, 40);
        due.is("one", x.times(0, 0, 1), 1);
        x.forget();
        due.is("ten", x.times(0, 0, 10), 10);
        ends("as they are", x, 0, 1, 27, 35);
    }

    private static void badRowsAndNumbers() {
        due.by("Promise 15", "BAD: ROW, n; STATE");
        NightStones x = withRow(0, 40);
        for (int n : outside(1, 10)) {
            due.is("n " + n, x.times(0, 0, n), BAD);
            due.is("n " + n + " from a missing", x.times(1, 0, n), BAD);
        }
        for (int row : outside(0, 7)) {
            due.is("row " + row, x.times(row, 0, 1), BAD);
        }
        due.is("none of these", x.count(5), 0);
        due.is("missing", x.times(7, 0, 1), NULL);
    }

    private static void placesOfTimes() {
        due.by("Promise 15", "four ITEMS each, a, b, v, t, from i on");
        for (int n = 1; n <= 10; n++) {
            NightStones x = withRow(0, 4 * n);
            due.is("all " + n, x.times(0, 0, n), n);
            due.is("from 1 on", x.times(0, 1, n), PLACE);
            due.is("from -1 on", x.times(0, -1, n), PLACE);
            due.is("none of these", x.count(5), n);
            x = withRow(0, 4 * n - 1);
            due.is("one item fewer", x.times(0, 0, n), PLACE);
        }
        NightStones x = withRow(0, 9);
        put(x, 0, 5, 1, 2, 7, 4);
        due.is("the last four", x.times(0, 5, 1), 1);
        ends("these", x, 1, 2, 28, 34);
        ends("not others", x, 0, 1, 1, 172);
        due.is("beyond", x.times(0, 6, 1), PLACE);
        due.is("an empty row", withRow(0, 0).times(0, 0, 1), PLACE);
        due.is("a row of three", withRow(0, 3).times(0, 0, 1), PLACE);
    }

    private static void farPlacesOfTimes() {
        due.by("Terms", "2 PLACE (no such place of a ROW)");
        NightStones x = withRow(0, 40);
        for (int i : new int[] {LEAST, LEAST + 4, -40, -4, -1, 37, 40, 41, MOST - 40, MOST - 3, MOST - 2, MOST}) {
            due.is("from " + i, x.times(0, i, 1), PLACE);
            due.is("ten from " + i, x.times(0, i, 10), PLACE);
        }
        due.is("the last", x.times(0, 36, 1), 1);
    }

    private static void itemsNotAsTold() {
        due.by("Promise 15", "then BAD: ITEMS that are not as told");
        int[][] wrong = {{0, 0, 9, 3}, {1, 0, 9, 3}, {-1, 1, 9, 3}, {0, 3, 9, 3}, {0, 1, 0, 3}, {0, 1, 21, 3}, {0, 1, -1, 3},
            {0, 1, 9, -1}, {0, 1, 9, 100}, {2, 2, 9, 3}, {0, 127, 9, 3}, {-128, 1, 9, 3}};
        int[][] right = {{1, 2, 9, 3}, {0, 2, 1, 0}, {0, 1, 20, 99}};
        NightStones x = withRow(0, 4);
        for (int[] items : wrong) {
            put(x, 0, 0, items);
            due.is("not as told", x.times(0, 0, 1), BAD);
            due.is("none came", x.count(5), 0);
        }
        for (int k = 0; k < right.length; k++) {
            put(x, 0, 0, right[k]);
            due.is("as told", x.times(0, 0, 1), k + 1);
        }
    }

    private static void allOrNone() {
        due.by("Promise 15", "all or none: how many there are then");
        for (int wrong = 0; wrong < 10; wrong++) {
            NightStones x = withRow(0, 40);
            x.time(0, 1, 20, 1);
            x.set(0, 4 * wrong + 3, 100);
            due.is("number " + wrong + " is wrong", x.times(0, 0, 10), BAD);
            due.is("none of all", x.count(5), 1);
            ends("the one ahead", x, 0, 1, 20, 39);
            if (wrong > 0) {
                due.is("those ahead of it", x.times(0, 0, wrong), 1 + wrong);
            } else {
                due.is("those behind it", x.times(0, 4, 9), 10);
            }
        }
    }

    private static void twelveFromRows() {
        due.by("Promise 15", "FULL.");
        for (int told = 0; told <= 12; told++) {
            NightStones x = withRow(0, 40);
            for (int k = 0; k < told; k++) {
                x.time(0, 1, 20, 1);
            }
            for (int n = 10; n > 12 - told; n--) {
                due.is(n + " to " + told, x.times(0, 0, n), FULL);
                due.is("none came", x.count(5), told);
            }
            if (told < 12) {
                int room = Math.min(10, 12 - told);
                due.is("as many as have room", x.times(0, 0, room), told + room);
            }
        }
    }

    private static void lanesOfTimes() {
        due.by("Promise 15", "from a ROW: four ITEMS each");
        for (int lane = 0; lane < 3; lane++) {
            NightStones x = withRow(lane, 8);
            put(x, 0, 4, 1, 2, 7, 4);
            due.is("lane " + lane, x.times(0, 0, 2), 2);
            ends("lane " + lane, x, 0, 1, 27, 35);
            ends("lane " + lane, x, 1, 2, 28, 34);
            due.is("status", x.status(), 0);
        }
        NightStones x = withRow(2, 4);
        put(x, 0, 0, 0, 1, 256 + 9, 3);
        due.is("ints are whole", x.times(0, 0, 1), BAD);
        x = withRow(1, 4);
        put(x, 0, 0, 0, 1, 9, 256 + 3);
        due.is("shorts are whole", x.times(0, 0, 1), BAD);
        x = withRow(0, 4);
        put(x, 0, 0, 0, 1, 256 + 9, 256 + 3);
        due.is("bytes were cut", x.times(0, 0, 1), 1);
    }

    private static void noRoad() {
        due.by("Promise 15", "STATE: no ROAD (ahead of BAD)");
        NightStones x = new NightStones();
        x.row(0, 0, 4);
        put(x, 0, 0, 0, 1, 9, 3);
        due.is("no road", x.times(0, 0, 1), STATE);
        Tape.road(x, "law 10 0 0");
        due.is("none was read", x.times(0, 0, 1), STATE);
        Tape.road(x, "law 10 0 0 0;");
        due.is("a road without stones", x.times(0, 0, 1), BAD);
        Tape.road(x, TWO);
        due.is("a road", x.times(0, 0, 1), 1);
    }

    private static void forgotten() {
        due.by("Promise 16", "No TIMES: how many there were.");
        NightStones x = new NightStones();
        due.is("no road", x.forget(), 0);
        Tape.road(x, TWO);
        due.is("none", x.forget(), 0);
        for (int n : new int[] {1, 2, 11, 12}) {
            for (int k = 0; k < n; k++) {
                x.time(0, 1, 1, 9);
            }
            due.is("there were", x.forget(), n);
            due.is("none", x.count(5), 0);
            ends("unbound", x, 0, 1, 1, 200);
        }
        due.is("none again", x.forget(), 0);
    }

    private static void pairsOfEnds() {
        due.by("Promise 17", "ENDS of STONES a, b (b farther): the least (what = 0), the most (1); NONE. BAD.");
        NightStones x = on(CROWDED);
        for (int a = -1; a <= 6; a++) {
            for (int b = -1; b <= 6; b++) {
                boolean is = a >= 0 && b <= 5 && a < b;
                ends("pairs", x, a, b, is ? b - a : BAD, is ? 5 + b - a : BAD);
            }
        }
        for (int stone : outside(0, 5)) {
            due.is("from " + stone, x.ends(stone, 5, 0), BAD);
            due.is("to " + stone, x.ends(0, stone, 0), BAD);
        }
        for (int what : outside(0, 1)) {
            due.is("what " + what, x.ends(0, 1, what), BAD);
        }
        x.time(0, 1, 1, 0);
        due.is("BAD, where no way does", x.ends(1, 0, 0), BAD);
        due.is("BAD too", x.ends(0, 1, 2), BAD);
        due.is("no road", new NightStones().ends(0, 1, 0), BAD);
    }

    private static void fewerThanTwo() {
        due.by("Terms 3", "NONE: fewer than two STONES, no way does");
        NightStones x = new NightStones();
        due.is("no road", x.widest(), STATE);
        Tape.road(x, "law 10 0 0");
        due.is("no road was read", x.widest(), STATE);
        Tape.road(x, "law 10 0 0 0;");
        due.is("no stone", x.widest(), NONE);
        Tape.road(x, "law 10 0 0 0;stone 0 0;");
        due.is("one", x.widest(), NONE);
        Tape.road(x, "law 10 0 0 0;stone 0 0;stone 0 1;");
        due.is("two", x.widest(), 1);
        x.time(0, 1, 1, 7);
        due.is("two, known", x.widest(), 1);
    }

    private static void farthestFromOneAnother() {
        due.by("Terms 3", "of all pairs of STONES (a, b: 6 a and b, a ahead of b) that whose ENDS are farthest from one another");
        for (int a = 0; a < 6; a++) {
            for (int b = a + 1; b < 6; b++) {
                NightStones x = on("law 200 1 1 1;" + SIX);
                // A and b are bound to another stone, loosely, all the rest to it, exactly.
                int firm = a > 0 ? 0 : b > 1 ? 1 : 2;
                for (int stone = 0; stone < 6; stone++) {
                    if (stone != firm) {
                        boolean loose = stone == a || stone == b;
                        int apart = 15 * Math.abs(stone - firm);
                        x.time(Math.min(firm, stone), Math.max(firm, stone), loose ? 5 : 1, loose ? apart / 5 : apart);
                    }
                }
                due.is("loose are " + a + ", " + b, x.widest(), 6 * a + b);
            }
        }
    }

    private static void firstOfSeveral() {
        due.by("Terms 3", "farthest from one another, the first");
        NightStones x = on(CROWDED);
        due.is("all alike", x.widest(), 1);
        x.time(0, 1, 1, 2);
        due.is("all but one", x.widest(), 2);
        x.time(0, 2, 1, 4);
        due.is("all but three", x.widest(), 3);
        x.time(0, 3, 1, 6);
        due.is("of 4, 5", x.widest(), 4);
        x.time(0, 4, 1, 8);
        due.is("of 5", x.widest(), 5);
        x.time(0, 5, 1, 10);
        due.is("all known", x.widest(), 1);
    }

    private static void widestWithoutAWay() {
        due.by("Promise 18", "WIDEST; NONE. STATE: no ROAD.");
        NightStones x = on(CROWDED);
        x.time(4, 5, 1, 0);
        due.is("no way does", x.widest(), NONE);
        x.forget();
        due.is("unbound", x.widest(), 1);
        x.time(0, 5, 20, 1);
        due.is("no way does", x.widest(), NONE);
    }
}
