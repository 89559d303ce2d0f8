/** The boundary sentences of the public face and ahead of the Terms: what a refusal is, and which of several it is. */
public final class EdgesOfRefusalsTest extends Edges {
    private static final Due due = new Due("EdgesOfRefusalsTest");
    private static final String TWO = "law 60 3 10 2;stone 0 0;stone 9 9;mover inn 1 1 1;";

    private EdgesOfRefusalsTest() {
    }

    public static void main(String[] args) {
        constants();
        numbersOfFindings();
        badAheadOfState();
        badAheadOfFull();
        badAheadOfFindings();
        stateAheadOfBad();
        findingsOfASet();
        findingsOfACopy();
        findingsOfTimes();
        refusedTimesBehindFindings();
        due.close();
    }

    private static void constants() {
        due.by("The public face", "NONE = -1000000, BAD = -1000001, STATE = -1000002, FULL = -1000003");
        due.is("NONE", NightStones.NONE, NONE);
        due.is("BAD", NightStones.BAD, BAD);
        due.is("STATE", NightStones.STATE, STATE);
        due.is("FULL", NightStones.FULL, FULL);
        NightStones x = new NightStones();
        due.is("a call that answers NONE", x.trace(0), NONE);
        due.is("a call that answers BAD", x.count(7), BAD);
        due.is("a call that answers STATE", x.night(), STATE);
        for (int k = 0; k < 50; k++) {
            x.feed(0, 8);
        }
        due.is("a call that answers FULL", x.feed(0, 1), FULL);
    }

    private static void numbersOfFindings() {
        due.by("Terms", "-1000010 less 1 NULL (a ROW that is missing), 2 PLACE (no such place of a ROW), "
            + "3 KIND (a MOVER that is not that), 4 SIZE (fewer than none), 5 STORE (ROWS of two LANES)");
        NightStones x = on(TWO);
        x.row(1, 1, 1);
        x.row(2, 2, 1);
        due.is("NULL", x.drop(0), -1000010 - 1);
        due.is("its number", x.status(), 1);
        due.is("PLACE", x.set(1, 1, 0), -1000010 - 2);
        due.is("its number", x.status(), 2);
        due.is("KIND", x.as(0, 2), -1000010 - 3);
        due.is("its number", x.status(), 3);
        due.is("SIZE", x.row(0, 0, -1), -1000010 - 4);
        due.is("its number", x.status(), 4);
        due.is("STORE", x.copy(1, 0, 2, 0, 1), -1000010 - 5);
        due.is("its number", x.status(), 5);
    }

    private static void badAheadOfState() {
        due.by("Terms", "the first of these that fits, but as told: BAD");
        NightStones x = new NightStones();
        for (int k : outside(0, 1)) {
            due.is("no such image, no road: " + k, x.image(k), BAD);
            due.is("no such image, none kept: " + k, x.restore(k), BAD);
        }
        due.is("no such stone, no road", x.prove(0), BAD);
        due.is("an image that is, no road", x.image(1), STATE);
        due.is("an image that is, none kept", x.restore(1), STATE);
    }

    private static void badAheadOfFull() {
        due.by("Terms", "STATE (as told), FULL (as told)");
        NightStones x = on(TWO);
        for (int k = 1; k <= 12; k++) {
            x.time(0, 1, 1, 9);
        }
        for (int k = 1; k <= 50; k++) {
            x.feed(0, 8);
        }
        due.is("a time, 12 told: b no farther", x.time(1, 1, 1, 9), BAD);
        due.is("a time, 12 told: no such stone", x.time(0, 2, 1, 9), BAD);
        due.is("a time, 12 told: pace 0", x.time(0, 1, 0, 9), BAD);
        due.is("a time, 12 told: hours 100", x.time(0, 1, 1, 100), BAD);
        due.is("a time, 12 told", x.time(0, 1, 1, 9), FULL);
        due.is("no byte on a full tape", x.feed(0, 0), BAD);
        due.is("nine bytes on a full tape", x.feed(0, 9), BAD);
        due.is("a byte on a full tape", x.feed(0, 1), FULL);
    }

    private static void badAheadOfFindings() {
        due.by("Terms", "BAD (a number is not as told; there is no such thing)");
        NightStones x = on(TWO);
        due.is("a row, fewer than none: no such row", x.row(8, 0, -1), BAD);
        due.is("a row, fewer than none: none below 0", x.row(-1, 0, -1), BAD);
        due.is("a row, fewer than none: no such lane", x.row(0, 3, -1), BAD);
        due.is("a row, fewer than none: no lane below 0", x.row(0, -1, -1), BAD);
        due.is("a place that is not: no such row", x.set(8, -1, 0), BAD);
        due.is("to one that is missing: no such row", x.copy(8, 0, 0, 0, 1), BAD);
        due.is("from one that is missing: no such row", x.copy(0, 0, 8, 0, 1), BAD);
        due.is("no such row is missing", x.drop(8), BAD);
        due.is("times from a missing row, none", x.times(0, 0, 0), BAD);
        due.is("times from a missing row, eleven", x.times(0, 0, 11), BAD);
        due.is("times from a place that is not, no such row", x.times(8, -1, 1), BAD);
        due.is("he is none: no such kind", x.as(0, 6), BAD);
        due.is("he is none: no such mover", x.as(1, 5), BAD);
        due.is("status of all these", x.status(), 0);
    }

    private static void stateAheadOfBad() {
        due.by("Promises 15, 20 to 23", "STATE: no ROAD (ahead of BAD)");
        NightStones x = new NightStones();
        for (int wrong : outside(0, 1)) {
            due.is("moved " + wrong, x.moved(wrong), STATE);
            due.is("who, what " + wrong, x.who(0, wrong), STATE);
            due.is("dare, what " + wrong, x.dare(0, wrong), STATE);
            due.is("best " + wrong, x.best(wrong), STATE);
        }
        due.is("who, n -1", x.who(-1, 0), STATE);
        due.is("who, n 10", x.who(10, 0), STATE);
        due.is("dare, d -1", x.dare(-1, 0), STATE);
        due.is("dare, d 4", x.dare(4, 0), STATE);
        due.is("times, row -1", x.times(-1, 0, 1), STATE);
        due.is("times, row 8", x.times(8, 0, 1), STATE);
        due.is("times, n 0", x.times(0, 0, 0), STATE);
        due.is("times, n 11", x.times(0, 0, 11), STATE);
        due.is("times, ahead of NULL too", x.times(0, 0, 1), STATE);
        x.row(0, 0, 4);
        due.is("times, ahead of PLACE too", x.times(0, 1, 1), STATE);
        due.is("times, ahead of items not as told", x.times(0, 0, 1), STATE);
        Tape.road(x, "law");
        due.is("a road that was not read is none", x.moved(2), STATE);
        Tape.road(x, TWO);
        due.is("moved, on a road", x.moved(2), BAD);
        due.is("times, on a road", x.times(8, 0, 1), BAD);
    }

    private static void findingsOfASet() {
        due.by("Terms", "FINDINGS, of several the first in time");
        NightStones x = new NightStones();
        due.is("a missing row has no place", x.set(0, -1, 0), NULL);
        due.is("nor any beyond", x.set(0, 40, 0), NULL);
        x.row(0, 0, 0);
        due.is("an empty one has none either", x.set(0, 0, 0), PLACE);
    }

    private static void findingsOfACopy() {
        due.by("Promise 4", "BAD: ROWS; NULL; STORE; PLACE");
        NightStones x = new NightStones();
        x.row(0, 0, 5);
        x.row(1, 1, 5);
        x.row(2, 0, 5);
        due.is("from a missing row, no place", x.copy(7, -1, 0, -1, -1), NULL);
        due.is("to a missing row, no place", x.copy(0, -1, 7, -1, -1), NULL);
        due.is("both missing", x.copy(6, 0, 7, 0, 0), NULL);
        due.is("two lanes, i below 0", x.copy(0, -1, 1, 0, 1), STORE);
        due.is("two lanes, j beyond", x.copy(1, 0, 0, 5, 1), STORE);
        due.is("two lanes, n below 0", x.copy(0, 0, 1, 0, -1), STORE);
        due.is("two lanes, none to copy", x.copy(0, 0, 1, 0, 0), STORE);
        due.is("one lane, n below 0", x.copy(0, 0, 2, 0, -1), PLACE);
    }

    private static void findingsOfTimes() {
        due.by("Promise 15", "NULL; PLACE; then BAD: ITEMS that are not as told; FULL.");
        NightStones x = on(TWO);
        due.is("missing, i below 0", x.times(0, -1, 1), NULL);
        x.row(0, 0, 7);
        due.is("the first is wrong, the second has no place", x.times(0, 0, 2), PLACE);
        due.is("items not as told", x.times(0, 0, 1), BAD);
    }

    private static void refusedTimesBehindFindings() {
        due.by("Promise 15", "then BAD: ITEMS that are not as told; FULL.");
        NightStones x = on(TWO);
        for (int k = 1; k <= 12; k++) {
            x.time(0, 1, 1, 9);
        }
        x.row(0, 0, 7);
        due.is("full, missing", x.times(1, 0, 1), NULL);
        due.is("full, no place", x.times(0, 4, 1), PLACE);
        due.is("full, items not as told", x.times(0, 0, 1), BAD);
        put(x, 0, 0, 0, 1, 1, 9);
        due.is("full", x.times(0, 0, 1), FULL);
        due.is("full, no such number", x.times(0, 0, 11), BAD);
        due.is("status: of the latest that was not refused", x.status(), 0);
    }
}
