import java.util.List;

/**
 * "What is refused, or found, changes nothing but status()": of two objects that were made by the same calls one has
 * the refused call besides; then both tell the same. So with the calls by which nothing changes.
 */
public final class UnchangedTest extends Edges {
    private static final Due due = new Due("UnchangedTest");
    private static final String FIVE = "law 40 7 20 9;stone 0 0;stone 5 5;stone 10 12;stone 20 20;stone 33 30;"
        + "mover inn 1 1 2;mover carter 2 0 1;mover parish 3 1 3;mover thief 4 1 4;mover priest 0 1 1;";

    private interface Maker {
        NightStones made();
    }

    private interface Call {
        int on(NightStones x);
    }

    private UnchangedTest() {
    }

    public static void main(String[] args) {
        toldApart();
        badRows();
        badRoads();
        badTimes();
        badForetold();
        badAsked();
        refusedAtFirst();
        refusedForState();
        refusedForRoom();
        allTimesOrNone();
        found();
        faultsOfRoads();
        nothingForetoldChanges();
        keepingAndForgetting();
        due.close();
    }

    /** Of all something: ROWS of each LANE, ACTS, TIMES, both IMAGES, a TRACE, a FAULT, half a text, a FINDING. */
    private static NightStones busy() {
        return busy("law 9", "law 60 3 10");
    }

    private static NightStones busy(String faulty, String left) {
        NightStones x = new NightStones();
        Tape.road(x, faulty);
        Tape.road(x, FIVE);
        x.image(1);
        x.night();
        x.time(0, 1, 3, 1);
        x.image(0);
        x.night();
        x.prove(2);
        x.time(1, 4, 7, 3);
        x.row(0, 0, 4);
        put(x, 0, 0, 0, 1, 7, 3);
        x.row(1, 1, 3);
        put(x, 1, 0, 21, 22, 23);
        x.row(2, 2, 5);
        put(x, 2, 0, 31, 32, 33, 34, 35);
        x.row(3, 2, 0);
        x.ask(4, 1);
        Tape.feed(x, left);
        x.set(0, 4, 1);
        return x;
    }

    /** Of all as much as there is room for, but ROWS. */
    private static NightStones full() {
        NightStones x = new NightStones();
        Tape.road(x, "law 200 3 10 2;stone 0 0;stone 9 9;mover inn 1 1 1;");
        for (int k = 0; k < 12; k++) {
            x.time(0, 1, 20, 7);
        }
        nights(x, 26);
        StringBuilder text = new StringBuilder("law 60 3 10 2;stone 7 3;");
        while (text.length() < 400) {
            text.append(' ');
        }
        Tape.feed(x, text.toString());
        x.row(0, 0, 8);
        put(x, 0, 0, 0, 1, 20, 7, 0, 1, 20, 7);
        return x;
    }

    private static boolean tellTheSame(NightStones x, NightStones y) {
        return Told.of(x).equals(Told.of(y));
    }

    private static void refused(String what, Maker maker, Call call, int answer) {
        NightStones x = maker.made();
        NightStones y = maker.made();
        int status = y.status();
        due.is(what, call.on(x), answer);
        boolean isFinding = answer <= NULL && answer >= STORE;
        due.is(what + ", status", x.status(), isFinding ? -1000010 - answer : status);
        due.holds(what + ": changed nothing", tellTheSame(x, y));
    }

    private static void bad(String what, Call call) {
        refused(what, UnchangedTest::busy, call, BAD);
    }

    // The test's own test: what does change something is told.
    private static void toldApart() {
        due.by("Terms", "changes nothing but status()");
        Call[] calls = {x -> x.row(4, 0, 0), x -> x.row(2, 1, 5), x -> x.row(2, 2, 5), x -> x.row(2, 2, 4), x -> x.drop(3),
            x -> x.set(0, 3, 4), x -> x.set(1, 0, 20), x -> x.set(2, 4, 36), x -> x.copy(2, 0, 2, 1, 1),
            x -> x.feed(' ', 1), x -> x.road(), x -> x.night(), x -> x.prove(3), x -> x.undo(), x -> x.time(0, 1, 20, 0),
            x -> x.times(0, 0, 1), x -> x.forget(), x -> x.image(0), x -> x.image(1), x -> x.restore(0), x -> x.restore(1),
            x -> x.ask(0, 0), x -> x.row(7, 2, 0)};
        due.holds("the same calls", tellTheSame(busy(), busy()));
        due.holds("the same calls, full", tellTheSame(full(), full()));
        due.holds("two others", !tellTheSame(busy(), full()));
        for (int k = 0; k < calls.length; k++) {
            NightStones x = busy();
            due.holds("call " + k + " is none refused", calls[k].on(x) > NONE || k == 10);
            due.holds("call " + k + " is told", !tellTheSame(x, busy()));
        }
    }

    private static void badRows() {
        due.by("Terms", "What is refused, or found, changes nothing but status().");
        for (int wrong : new int[] {-1, 8, MOST, LEAST}) {
            bad("row " + wrong, x -> x.row(wrong, 0, 1));
            bad("set " + wrong, x -> x.set(wrong, 0, 1));
            bad("copy from " + wrong, x -> x.copy(wrong, 0, 0, 0, 1));
            bad("copy to " + wrong, x -> x.copy(0, 0, wrong, 0, 1));
            bad("drop " + wrong, x -> x.drop(wrong));
        }
        bad("row of no lane", x -> x.row(0, 3, 1));
        bad("row of a lane below 0", x -> x.row(2, -1, 1));
        bad("row of 41", x -> x.row(0, 0, 41));
        bad("row of 41 where none is", x -> x.row(4, 0, 41));
    }

    private static void badRoads() {
        due.by("Terms", "What is refused, or found, changes nothing but status().");
        bad("feed of none", x -> x.feed(' ', 0));
        bad("feed of nine", x -> x.feed(' ', 9));
        bad("feed below none", x -> x.feed(' ', -1));
        for (int wrong : new int[] {-1, 5, 6, MOST, LEAST}) {
            bad("prove " + wrong, x -> x.prove(wrong));
            bad("stone " + wrong, x -> x.stone(wrong, 0));
            bad("carry from " + wrong, x -> x.carry(wrong, 0, 0));
            bad("carry to " + wrong, x -> x.carry(0, wrong, 1));
        }
        bad("stone, what 3", x -> x.stone(0, 3));
        bad("carry, what 2", x -> x.carry(0, 1, 2));
    }

    private static void badTimes() {
        due.by("Terms", "What is refused, or found, changes nothing but status().");
        for (int wrong : new int[] {-1, 5, 6, MOST, LEAST}) {
            bad("time from " + wrong, x -> x.time(wrong, 4, 9, 0));
            bad("time to " + wrong, x -> x.time(0, wrong, 9, 0));
            bad("ends from " + wrong, x -> x.ends(wrong, 4, 0));
            bad("ends to " + wrong, x -> x.ends(0, wrong, 0));
        }
        bad("time to itself", x -> x.time(1, 1, 9, 0));
        bad("time back", x -> x.time(1, 0, 9, 0));
        bad("time at 0", x -> x.time(0, 1, 0, 0));
        bad("time at 21", x -> x.time(0, 1, 21, 0));
        bad("time in -1", x -> x.time(0, 1, 9, -1));
        bad("time in 100", x -> x.time(0, 1, 9, 100));
        bad("times, row -1", x -> x.times(-1, 0, 1));
        bad("times, row 8", x -> x.times(8, 0, 1));
        bad("times, none", x -> x.times(0, 0, 0));
        bad("times, eleven", x -> x.times(0, 0, 11));
        bad("times of other items", x -> x.times(2, 0, 1));
        bad("ends, what 2", x -> x.ends(0, 1, 2));
        bad("ends of itself", x -> x.ends(1, 1, 0));
    }

    private static void badForetold() {
        due.by("Terms", "What is refused, or found, changes nothing but status().");
        for (int wrong : new int[] {-1, 2, MOST, LEAST}) {
            bad("moved " + wrong, x -> x.moved(wrong));
            bad("who, what " + wrong, x -> x.who(0, wrong));
            bad("dare, what " + wrong, x -> x.dare(0, wrong));
            bad("best " + wrong, x -> x.best(wrong));
            bad("image " + wrong, x -> x.image(wrong));
            bad("restore " + wrong, x -> x.restore(wrong));
        }
        bad("who, n -1", x -> x.who(-1, 0));
        bad("who, n 10", x -> x.who(10, 0));
        bad("dare, d -1", x -> x.dare(-1, 0));
        bad("dare, d 4", x -> x.dare(4, 0));
    }

    private static void badAsked() {
        due.by("Terms", "What is refused, or found, changes nothing but status().");
        for (int wrong : new int[] {-1, 5, MOST, LEAST}) {
            bad("kind " + wrong, x -> x.kind(wrong));
            bad("as of " + wrong, x -> x.as(wrong, 0));
            bad("ask of " + wrong, x -> x.ask(wrong, 0));
        }
        bad("as -1", x -> x.as(0, -1));
        bad("as 6", x -> x.as(0, 6));
        bad("ask -1", x -> x.ask(0, -1));
        bad("ask 2", x -> x.ask(0, 2));
        bad("count -1", x -> x.count(-1));
        bad("count 7", x -> x.count(7));
    }

    private static void refusedAtFirst() {
        due.by("Promise 1", "No ROAD.");
        Call[] state = {NightStones::night, NightStones::undo, x -> x.times(0, 0, 1), NightStones::widest, NightStones::rest,
            x -> x.moved(0), x -> x.who(0, 0), x -> x.dare(0, 0), x -> x.best(0), x -> x.image(0), x -> x.image(1),
            x -> x.restore(0), x -> x.restore(1)};
        Call[] bad = {x -> x.prove(0), x -> x.stone(0, 0), x -> x.carry(0, 0, 0), x -> x.time(0, 1, 1, 1),
            x -> x.ends(0, 1, 0), x -> x.kind(0), x -> x.as(0, 0), x -> x.ask(0, 0)};
        for (int k = 0; k < state.length; k++) {
            refused("STATE " + k, NightStones::new, state[k], STATE);
        }
        for (int k = 0; k < bad.length; k++) {
            refused("BAD " + k, NightStones::new, bad[k], BAD);
        }
    }

    private static void refusedForState() {
        due.by("Terms", "STATE (as told)");
        refused("home", UnchangedTest::busy, x -> x.prove(2), STATE);
        Maker between = () -> {
            NightStones x = on(60, at(10, 20), "mover carter 1 1 5;mover carter 0 1 5;mover inn 0 1 2;");
            x.image(1);
            x.night();
            return x;
        };
        refused("one is between", between, x -> x.prove(1), STATE);
        refused("no image 0", between, x -> x.restore(0), STATE);
        Maker read = () -> on(60, at(10, 20), "mover inn 1 1 5;");
        refused("no act", read, NightStones::undo, STATE);
        refused("no image 1", read, x -> x.restore(1), STATE);
    }

    private static void refusedForRoom() {
        due.by("Terms", "FULL (as told)");
        for (int n = 1; n <= 8; n++) {
            int bytes = n;
            refused("feed of " + n, UnchangedTest::full, x -> x.feed(0x3b3b3b3b3b3b3b3bL, bytes), FULL);
        }
        refused("a time", UnchangedTest::full, x -> x.time(0, 1, 1, 9), FULL);
        refused("one from a row", UnchangedTest::full, x -> x.times(0, 0, 1), FULL);
        refused("two from a row", UnchangedTest::full, x -> x.times(0, 0, 2), FULL);
        Maker oneByteLeft = () -> {
            NightStones x = new NightStones();
            for (int k = 0; k < 49; k++) {
                x.feed(0x2020202020202020L, 8);
            }
            x.feed(0x20202020202020L, 7);
            return x;
        };
        refused("two bytes where one has room", oneByteLeft, x -> x.feed(0x3b3b, 2), FULL);
        refused("eight bytes where one has room", oneByteLeft, x -> x.feed(0x3b3b3b3b3b3b3b3bL, 8), FULL);
    }

    private static void allTimesOrNone() {
        due.by("Promise 15", "all or none");
        Maker eleven = () -> {
            NightStones x = full();
            x.forget();
            for (int k = 0; k < 11; k++) {
                x.time(0, 1, 20, 7);
            }
            return x;
        };
        refused("room for one of two", eleven, x -> x.times(0, 0, 2), FULL);
        Maker second = () -> {
            NightStones x = full();
            x.forget();
            x.set(0, 7, 100);
            return x;
        };
        refused("the second is not as told", second, x -> x.times(0, 0, 2), BAD);
    }

    private static void found() {
        due.by("Terms", "FINDINGS, of several the first in time");
        Maker busy = UnchangedTest::busy;
        refused("row of fewer than none", busy, x -> x.row(2, 0, -1), SIZE);
        refused("row of fewer than none, missing", busy, x -> x.row(4, 0, LEAST), SIZE);
        refused("set of a missing", busy, x -> x.set(4, 0, 1), NULL);
        refused("set ahead", busy, x -> x.set(0, -1, 1), PLACE);
        refused("set beyond", busy, x -> x.set(0, 4, 1), PLACE);
        refused("set of none", busy, x -> x.set(3, 0, 1), PLACE);
        refused("copy from a missing", busy, x -> x.copy(4, 0, 0, 0, 1), NULL);
        refused("copy to a missing", busy, x -> x.copy(0, 0, 4, 0, 1), NULL);
        refused("copy, bytes to shorts", busy, x -> x.copy(0, 0, 1, 0, 3), STORE);
        refused("copy, ints to bytes", busy, x -> x.copy(2, 0, 0, 0, 4), STORE);
        refused("copy beyond a", busy, x -> x.copy(2, 1, 2, 0, 5), PLACE);
        refused("copy beyond b", busy, x -> x.copy(2, 0, 2, 1, 5), PLACE);
        refused("copy to none", busy, x -> x.copy(2, 0, 3, 0, 1), PLACE);
        refused("copy below none", busy, x -> x.copy(2, 1, 2, 2, -1), PLACE);
        refused("drop of a missing", busy, x -> x.drop(4), NULL);
        refused("times of a missing", busy, x -> x.times(4, 0, 1), NULL);
        refused("times beyond", busy, x -> x.times(0, 1, 1), PLACE);
        refused("times, two of one", busy, x -> x.times(0, 0, 2), PLACE);
        refused("as another", busy, x -> x.as(0, 4), KIND);
    }

    // Of two with empty tapes one had the FAULT ahead of all else.
    private static void faultsOfRoads() {
        due.by("Promise 7", "all but the tape, and what fault() tells, stays.");
        String[] faulty = {"", "law 9 0 0 0;", "law 10 1 1 1;stone 1 1;stone 0 0;", "law 10 1 1 1;stone 7 7;mover inn 0 0 1",
            "law 10 1 1 1;stone 7 7;mover inn 0 0 1;?", "law 10 1 1 1;" + SIX + "stone 0 9;"};
        int[] faults = {1, 2, 2, 1, 1, 3};
        for (int k = 0; k < faulty.length; k++) {
            NightStones x = busy("law 10 0 0 0;stone 201", "");
            NightStones y = busy(faulty[k], "");
            due.holds("refused: '" + faulty[k] + "'", Tape.road(x, faulty[k]) <= -1000100);
            due.is("the fault of '" + faulty[k] + "'", x.fault(), faults[k]);
            due.is("status", x.status(), 2);
            due.is("the tape", x.count(6), 0);
            due.holds("all else stays: '" + faulty[k] + "'", tellTheSame(x, y));
        }
    }

    private static void nothingForetoldChanges() {
        due.by("Terms 3", "FORETOLD (nothing changes).");
        Call[] calls = {NightStones::rest, NightStones::widest, x -> x.moved(0), x -> x.moved(1), x -> x.who(9, 0),
            x -> x.who(9, 1), x -> x.dare(3, 0), x -> x.dare(3, 1), x -> x.best(0), x -> x.best(1), x -> x.ends(0, 4, 0),
            x -> x.ends(0, 4, 1), x -> x.stone(4, 1), x -> x.carry(0, 4, 0), x -> x.carry(4, 0, 1), NightStones::fault,
            x -> x.kind(4), x -> x.trace(0), x -> x.count(6), NightStones::status};
        for (int k = 0; k < calls.length; k++) {
            NightStones x = busy();
            int first = calls[k].on(x);
            due.is("call " + k + ", again", calls[k].on(x), first);
            due.is("call " + k + ", status", x.status(), 2);
            due.holds("call " + k + " changes nothing", tellTheSame(x, busy()));
        }
    }

    private static void keepingAndForgetting() {
        due.by("Promise 24", "An IMAGE (0, 1) is kept of the ROAD, with TIMES: 1.");
        NightStones x = busy();
        x.image(0);
        NightStones y = busy();
        y.image(0);
        y.image(0);
        due.holds("kept twice", tellTheSame(x, y));
        x = busy();
        x.restore(1);
        y = busy();
        y.restore(1);
        y.restore(1);
        List<Integer> told = Told.of(x);
        due.holds("restored twice", told.equals(Told.of(y)));
    }
}
