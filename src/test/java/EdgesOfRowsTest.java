/** The boundary sentences on ROWS: part 1 of the Terms, promises 1 to 5. */
public final class EdgesOfRowsTest extends Edges {
    private static final Due due = new Due("EdgesOfRowsTest");
    private static final int[] LANES = {0, 1, 2};
    private static final int SPENT = 7;

    private EdgesOfRowsTest() {
    }

    public static void main(String[] args) {
        newObject();
        missingAtFirst();
        numbersOfRows();
        numbersOfLanes();
        numbersOfItems();
        fewerThanNone();
        zeroAtFirst();
        inPlaceOfWhatIsThere();
        lowestBits();
        whatItIsThen();
        placesOfASet();
        asTheyWereAhead();
        emptyCopies();
        endsOfACopy();
        farCopies();
        lanesOfACopy();
        missingFromNowOn();
        allRows();
        statusOfRows();
        statusAtFirst();
        due.close();
    }

    private static void newObject() {
        due.by("Promise 1", "No ROAD.");
        NightStones x = new NightStones();
        due.is("night", x.night(), STATE);
        due.is("widest", x.widest(), STATE);
        due.is("rest", x.rest(), STATE);
        due.is("moved", x.moved(0), STATE);
        due.is("image", x.image(0), STATE);
        due.is("stone", x.stone(0, 0), BAD);
        due.is("carry", x.carry(0, 0, 0), BAD);
        due.is("ends", x.ends(0, 1, 0), BAD);
        due.is("kind", x.kind(0), BAD);
        due.is("ask", x.ask(0, 0), BAD);
        for (int what = 0; what <= 6; what++) {
            due.is("count " + what, x.count(what), 0);
        }
    }

    private static void missingAtFirst() {
        due.by("Terms 1", "ROWS 0 .. 7 are missing (at first)");
        NightStones x = new NightStones();
        x.row(SPENT, 0, 1);
        for (int row = 0; row < 7; row++) {
            due.is("set " + row, x.set(row, 0, 1), NULL);
            due.is("copy from " + row, x.copy(row, 0, SPENT, 0, 0), NULL);
            due.is("copy to " + row, x.copy(SPENT, 0, row, 0, 0), NULL);
            due.is("drop " + row, x.drop(row), NULL);
        }
        due.is("the last", new NightStones().drop(7), NULL);
        due.is("how many", new NightStones().count(0), 0);
    }

    private static void numbersOfRows() {
        due.by("Terms 1", "ROWS 0 .. 7");
        NightStones x = on("law 60 3 10 2;stone 0 0;stone 9 9;");
        for (int row = 0; row < 8; row++) {
            due.is("row " + row, x.row(row, 0, 1), 1);
            due.is("set " + row, x.set(row, 0, row), row);
            due.is("copy " + row, x.copy(row, 0, row, 0, 1), 1);
        }
        for (int row : outside(0, 7)) {
            due.is("row " + row, x.row(row, 0, 1), BAD);
            due.is("set " + row, x.set(row, 0, 1), BAD);
            due.is("copy from " + row, x.copy(row, 0, 0, 0, 1), BAD);
            due.is("copy to " + row, x.copy(0, 0, row, 0, 1), BAD);
            due.is("drop " + row, x.drop(row), BAD);
            due.is("times " + row, x.times(row, 0, 1), BAD);
        }
        due.is("all eight stay", x.count(0), 8);
    }

    private static void numbersOfLanes() {
        due.by("Terms 1", "a LANE (0 bytes, 1 shorts, 2 ints)");
        NightStones x = new NightStones();
        int[] kept = {-1, 0xd678 - 0x10000, 0x1234d678};
        int[] told = {0x123456ff, 0x1234d678, 0x1234d678};
        for (int lane : LANES) {
            due.is("lane " + lane, x.row(lane, lane, 1), 1);
            due.is("keeps of " + told[lane], x.set(lane, 0, told[lane]), kept[lane]);
        }
        for (int lane : outside(0, 2)) {
            due.is("lane " + lane, x.row(3, lane, 1), BAD);
        }
        due.is("none was made", x.drop(3), NULL);
    }

    private static void numbersOfItems() {
        due.by("Terms 1", "0 to 40 ITEMS");
        NightStones x = new NightStones();
        for (int lane : LANES) {
            due.is("none, lane " + lane, x.row(0, lane, 0), 0);
            due.is("none has no place", x.set(0, 0, 1), PLACE);
            due.is("one", x.row(0, lane, 1), 1);
            due.is("its place", x.set(0, 0, 1), 1);
            due.is("and no other", x.set(0, 1, 1), PLACE);
            due.is("most", x.row(0, lane, 40), 40);
            due.is("the last place", x.set(0, 39, 1), 1);
            due.is("and none behind", x.set(0, 40, 1), PLACE);
            for (int n : new int[] {41, 42, 296, 65576, MOST - 1, MOST}) {
                due.is("above 40: " + n, x.row(0, lane, n), BAD);
            }
            due.is("as it was", x.drop(0), 40);
        }
    }

    private static void fewerThanNone() {
        due.by("Promise 2", "BAD: ROW, LANE, n above 40; SIZE.");
        NightStones x = new NightStones();
        for (int n : new int[] {-1, -2, -40, -41, -65536, LEAST + 1, LEAST}) {
            due.is("n " + n, x.row(0, 0, n), SIZE);
            due.is("none was made", x.drop(0), NULL);
        }
        x.row(0, 1, 3);
        due.is("a row that is there", x.row(0, 2, -1), SIZE);
        due.is("has its lane yet", x.set(0, 0, 32768), -32768);
        due.is("has its items yet", x.drop(0), 3);
    }

    private static void zeroAtFirst() {
        due.by("Terms 1", "0 at first");
        for (int lane : LANES) {
            NightStones x = new NightStones();
            Items.layRoad(x);
            Items.layRow(x, SPENT, lane);
            x.row(0, lane, 40);
            for (int i = 0; i < 40; i++) {
                due.is("lane " + lane + ", item " + i, Items.read(x, 0, i, SPENT), 0);
            }
        }
    }

    private static void inPlaceOfWhatIsThere() {
        due.by("Promise 2", "A ROW of a LANE with n ITEMS, in place of what is there");
        for (int lane : LANES) {
            NightStones x = new NightStones();
            Items.layRoad(x);
            Items.layRow(x, SPENT, lane);
            x.row(0, 2 - lane, 40);
            put(x, 0, 0, 11, 12, 13);
            put(x, 0, 37, 47, 48, 49);
            due.is("fewer", x.row(0, lane, 2), 2);
            due.is("how many rows", x.count(0), 2);
            due.is("item 0", Items.read(x, 0, 0, SPENT), 0);
            due.is("item 1", Items.read(x, 0, 1, SPENT), 0);
            due.is("no item 2", Items.read(x, 0, 2, SPENT), PLACE);
            due.is("more", x.row(0, lane, 40), 40);
            for (int i : new int[] {0, 1, 2, 37, 38, 39}) {
                due.is("item " + i, Items.read(x, 0, i, SPENT), 0);
            }
        }
    }

    private static void lowestBits() {
        due.by("Promise 3", "its lowest bits, as many as the LANE has (read with their sign)");
        int[][] bytes = {{0, 0}, {127, 127}, {128, -128}, {129, -127}, {255, -1}, {256, 0}, {383, 127}, {384, -128},
            {-1, -1}, {-128, -128}, {-129, 127}, {-256, 0}, {-257, -1}, {32768, 0}, {65535, -1}, {MOST, -1}, {LEAST, 0}};
        int[][] shorts = {{127, 127}, {128, 128}, {255, 255}, {32767, 32767}, {32768, -32768}, {65535, -1}, {65536, 0},
            {98303, 32767}, {-1, -1}, {-32768, -32768}, {-32769, 32767}, {-65536, 0}, {MOST, -1}, {LEAST, 0}};
        int[][] ints = {{128, 128}, {32768, 32768}, {65536, 65536}, {-32769, -32769}, {MOST, MOST}, {LEAST, LEAST}};
        int[][][] told = {bytes, shorts, ints};
        NightStones x = new NightStones();
        for (int lane : LANES) {
            x.row(lane, lane, 1);
            for (int[] item : told[lane]) {
                due.is("lane " + lane + " of " + item[0], x.set(lane, 0, item[0]), item[1]);
                due.is("is no finding", x.status(), 0);
            }
        }
    }

    private static void whatItIsThen() {
        due.by("Promise 3", "ITEM i becomes v, its lowest bits, as many as the LANE has (read with their sign): "
            + "what it is then.");
        int[] all = {256, 65536, 0};
        for (int lane : LANES) {
            NightStones x = new NightStones();
            Items.layRoad(x);
            Items.layRow(x, SPENT, lane);
            x.row(0, lane, 3);
            due.is("set", x.set(0, 1, 42 + 3 * all[lane]), 42);
            due.is("lane " + lane + ", it is then", Items.read(x, 0, 1, SPENT), 42);
            due.is("the one ahead is as it was", Items.read(x, 0, 0, SPENT), 0);
            due.is("the one behind is as it was", Items.read(x, 0, 2, SPENT), 0);
            due.is("set below 0", x.set(0, 1, -42), -42);
            due.is("it is no more", Items.read(x, 0, 1, SPENT), -1);
        }
        NightStones x = new NightStones();
        x.row(0, 2, 1);
        for (int refusal : new int[] {NONE, BAD, STATE, FULL, NULL, PLACE, KIND, SIZE, STORE}) {
            due.is("an int that is as a refusal", x.set(0, 0, refusal), refusal);
            due.is("but is none", x.status(), 0);
        }
    }

    private static void placesOfASet() {
        due.by("Promise 3", "BAD: ROW; NULL; PLACE.");
        NightStones x = new NightStones();
        for (int n : new int[] {0, 1, 2, 39, 40}) {
            x.row(0, 2, n);
            for (int i : outside(0, n - 1)) {
                due.is("place " + i + " of " + n, x.set(0, i, 5), PLACE);
            }
            if (n > 0) {
                due.is("first of " + n, x.set(0, 0, 5), 5);
                due.is("last of " + n, x.set(0, n - 1, 6), 6);
            }
        }
    }

    private static void asTheyWereAhead() {
        due.by("Promise 4", "n ITEMS of a from i on come to b from j on, as they were ahead");
        int[][] copies = {{0, 1, 5, 11, 11, 12, 13, 14, 15}, {1, 0, 6, 12, 13, 14, 15, 16, 17, 17},
            {0, 2, 5, 11, 12, 11, 12, 13, 14, 15}, {0, 0, 7, 11, 12, 13, 14, 15, 16, 17}, {6, 0, 1, 17, 12, 13},
            {0, 6, 1, 11, 12, 13, 14, 15, 16, 11}};
        for (int[] copy : copies) {
            NightStones x = new NightStones();
            Items.layRoad(x);
            Items.layRow(x, SPENT, 1);
            x.row(0, 1, 7);
            put(x, 0, 0, 11, 12, 13, 14, 15, 16, 17);
            due.is("within a row", x.copy(0, copy[0], 0, copy[1], copy[2]), copy[2]);
            for (int i = 3; i < copy.length; i++) {
                due.is(copy[2] + " from " + copy[0] + " to " + copy[1] + ", item " + (i - 3),
                    Items.read(x, 0, i - 3, SPENT), copy[i]);
            }
        }
        fromRowToRow();
    }

    private static void fromRowToRow() {
        NightStones x = new NightStones();
        Items.layRoad(x);
        Items.layRow(x, SPENT, 0);
        x.row(0, 0, 4);
        x.row(1, 0, 3);
        put(x, 0, 0, 11, 12, 13, 14);
        put(x, 1, 0, 21, 22, 23);
        due.is("from row to row", x.copy(0, 2, 1, 1, 2), 2);
        int[] from = {11, 12, 13, 14};
        int[] to = {21, 13, 14};
        for (int i = 0; i < 4; i++) {
            due.is("from, item " + i, Items.read(x, 0, i, SPENT), from[i]);
        }
        for (int i = 0; i < 3; i++) {
            due.is("to, item " + i, Items.read(x, 1, i, SPENT), to[i]);
        }
    }

    private static void emptyCopies() {
        due.by("Promise 4", "n ITEMS of a from i on come to b from j on, as they were ahead: n.");
        NightStones x = new NightStones();
        x.row(0, 1, 0);
        x.row(1, 1, 40);
        due.is("none of none", x.copy(0, 0, 0, 0, 0), 0);
        due.is("none to none", x.copy(1, 0, 0, 0, 0), 0);
        due.is("none of none to 40", x.copy(0, 0, 1, 0, 0), 0);
        due.is("none of none to the end", x.copy(0, 0, 1, 40, 0), 0);
        due.is("none from the end on", x.copy(1, 40, 0, 0, 0), 0);
        due.is("one of none", x.copy(0, 0, 1, 0, 1), PLACE);
        due.is("one to none", x.copy(1, 0, 0, 0, 1), PLACE);
        due.is("none from beyond the end", x.copy(1, 41, 1, 0, 0), PLACE);
        due.is("none to beyond the end", x.copy(1, 0, 1, 41, 0), PLACE);
        due.is("none from beyond none", x.copy(0, 1, 1, 0, 0), PLACE);
        due.is("none to beyond none", x.copy(1, 0, 0, 1, 0), PLACE);
    }

    private static void endsOfACopy() {
        due.by("Promise 4", "PLACE (i, j, n below 0, or beyond an end)");
        NightStones x = new NightStones();
        x.row(0, 1, 40);
        x.row(1, 1, 5);
        due.is("all", x.copy(0, 0, 0, 0, 40), 40);
        due.is("more than all", x.copy(0, 0, 0, 0, 41), PLACE);
        due.is("the last", x.copy(0, 39, 0, 0, 1), 1);
        due.is("beyond the last", x.copy(0, 40, 0, 0, 1), PLACE);
        due.is("to the last", x.copy(0, 0, 0, 39, 1), 1);
        due.is("to beyond the last", x.copy(0, 0, 0, 40, 1), PLACE);
        due.is("up to the end of a", x.copy(1, 2, 0, 0, 3), 3);
        due.is("one beyond the end of a", x.copy(1, 2, 0, 0, 4), PLACE);
        due.is("up to the end of b", x.copy(0, 0, 1, 2, 3), 3);
        due.is("one beyond the end of b", x.copy(0, 0, 1, 2, 4), PLACE);
        due.is("i below 0", x.copy(0, -1, 0, 0, 1), PLACE);
        due.is("j below 0", x.copy(0, 0, 0, -1, 1), PLACE);
        due.is("n below 0", x.copy(0, 0, 0, 0, -1), PLACE);
        due.is("n below 0, i, j within", x.copy(0, 5, 0, 5, -1), PLACE);
        due.is("i below 0, none", x.copy(0, -1, 0, 0, 0), PLACE);
        due.is("j below 0, none", x.copy(0, 0, 0, -1, 0), PLACE);
    }

    private static void farCopies() {
        due.by("Promise 4", "i, j, n below 0, or beyond an end");
        NightStones x = new NightStones();
        x.row(0, 1, 40);
        int[] far = {LEAST, LEAST + 1, LEAST + 40, -40, MOST - 39, MOST - 1, MOST};
        for (int one : far) {
            due.is("i " + one, x.copy(0, one, 0, 0, 1), PLACE);
            due.is("j " + one, x.copy(0, 0, 0, one, 1), PLACE);
            due.is("n " + one, x.copy(0, 0, 0, 0, one), PLACE);
            for (int other : far) {
                due.is("i " + one + " n " + other, x.copy(0, one, 0, 0, other), PLACE);
                due.is("j " + one + " n " + other, x.copy(0, 0, 0, one, other), PLACE);
            }
            due.is("n " + one + " from 39", x.copy(0, 39, 0, 39, one), PLACE);
        }
    }

    private static void lanesOfACopy() {
        due.by("Terms", "5 STORE (ROWS of two LANES)");
        NightStones x = new NightStones();
        for (int lane : LANES) {
            x.row(lane, lane, 4);
            x.row(3 + lane, lane, 4);
        }
        for (int from : LANES) {
            for (int to : LANES) {
                due.is("lane " + from + " to lane " + to, x.copy(from, 0, 3 + to, 0, 4), from == to ? 4 : STORE);
                due.is("none, lane " + from + " to lane " + to, x.copy(from, 0, 3 + to, 0, 0), from == to ? 0 : STORE);
            }
        }
    }

    private static void missingFromNowOn() {
        due.by("Promise 5", "A ROW is missing from now on: how many ITEMS it had. BAD; NULL.");
        for (int lane : LANES) {
            for (int n : new int[] {0, 1, 40}) {
                NightStones x = new NightStones();
                Items.layRoad(x);
                Items.layRow(x, SPENT, lane);
                x.row(0, lane, n);
                x.set(0, 0, 5);
                due.is("had " + n, x.drop(0), n);
                due.is("again", x.drop(0), NULL);
                due.is("no item", x.set(0, 0, 5), NULL);
                due.is("none to copy", x.copy(0, 0, SPENT, 0, 0), NULL);
                due.is("none to copy to", x.copy(SPENT, 0, 0, 0, 0), NULL);
                due.is("no times", x.times(0, 0, 1), NULL);
                due.is("the other stays", x.count(0), 1);
                due.is("made again", x.row(0, lane, 1), 1);
                due.is("is 0", Items.read(x, 0, 0, SPENT), 0);
            }
        }
    }

    private static void allRows() {
        due.by("Promise 30", "How many: 0 ROWS");
        NightStones x = new NightStones();
        for (int row = 0; row < 8; row++) {
            due.is("ahead of " + row, x.count(0), row);
            x.row(row, row % 3, 0);
        }
        due.is("all", x.count(0), 8);
        x.row(3, 1, 5);
        due.is("all, one made anew", x.count(0), 8);
        for (int row = 7; row >= 0; row--) {
            x.drop(row);
            due.is("behind " + row, x.count(0), row);
        }
        x.drop(0);
        due.is("none", x.count(0), 0);
    }

    private static void statusOfRows() {
        due.by("Promise 31", "Of the latest call with a ROW, or as(), that was not BAD, STATE, FULL: "
            + "the number of its FINDING");
        NightStones x = new NightStones();
        x.row(0, 0, -1);
        due.is("SIZE", x.status(), 4);
        x.row(8, 0, 1);
        x.set(-1, 0, 0);
        x.copy(8, 0, 0, 0, 0);
        x.drop(8);
        x.times(0, 0, 1);
        x.as(0, 0);
        x.image(0);
        x.night();
        due.is("BAD and STATE are passed over", x.status(), 4);
        x.row(0, 0, 1);
        due.is("a row", x.status(), 0);
        x.set(0, 1, 0);
        due.is("PLACE", x.status(), 2);
        x.set(0, 0, 0);
        due.is("a set", x.status(), 0);
        x.copy(0, 0, 1, 0, 1);
        due.is("NULL", x.status(), 1);
        x.copy(0, 0, 0, 0, 1);
        due.is("a copy", x.status(), 0);
        x.row(1, 1, 1);
        x.copy(0, 0, 1, 0, 1);
        due.is("STORE", x.status(), 5);
        x.drop(1);
        due.is("a drop", x.status(), 0);
        x.drop(1);
        due.is("NULL of a drop", x.status(), 1);
    }

    private static void statusAtFirst() {
        due.by("Promise 31", "0: it had none, or there was none.");
        NightStones x = new NightStones();
        due.is("there was none", x.status(), 0);
        x.row(8, 0, 0);
        x.drop(-1);
        x.times(0, 0, 1);
        x.as(0, 0);
        due.is("none that was not BAD, STATE", x.status(), 0);
        x.row(0, 0, 0);
        due.is("it had none", x.status(), 0);
    }
}
