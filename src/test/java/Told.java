import java.util.ArrayList;
import java.util.List;

/** All that calls can tell of an object, but status(); asking it spends the object, in some 400 calls at most. */
final class Told {
    private static final int ROWS = 8, SPENT = 5;
    private final NightStones x;
    private final List<Integer> told = new ArrayList<>();

    private Told(NightStones x) {
        this.x = x;
    }

    /** Of objects on which the ROWS 5 to 7 hold no ITEMS. */
    static List<Integer> of(NightStones x) {
        Told all = new Told(x);
        all.fault();
        all.counts();
        all.trace();
        all.road();
        all.acts();
        all.images();
        all.tape();
        all.rows();
        return all.told;
    }

    private void add(int... answers) {
        for (int answer : answers) {
            told.add(answer);
        }
    }

    private void fault() {
        add(x.fault());
    }

    private void counts() {
        for (int what = 0; what <= 6; what++) {
            add(x.count(what));
        }
    }

    private void trace() {
        for (int i = 0; i <= 6; i++) {
            add(x.trace(i));
        }
    }

    private void road() {
        int stones = x.count(1);
        for (int stone = 0; stone < stones; stone++) {
            add(x.stone(stone, 0), x.stone(stone, 1), x.stone(stone, 2));
        }
        for (int mover = 0; mover < x.count(2); mover++) {
            add(x.kind(mover), x.ask(mover, 0));
        }
        add(x.carry(0, 1, 0), x.dare(1, 0), x.dare(1, 1), x.best(1), x.rest(), x.count(3), x.count(5));
        for (int b = 1; b < stones; b++) {
            add(x.ends(0, b, 0), x.ends(0, b, 1));
        }
        // Where all stand behind a night tells whom each mover pushes, and which way.
        add(x.night());
        for (int stone = 0; stone < stones; stone++) {
            add(x.stone(stone, 1));
        }
        x.undo();
        x.forget();
        add(x.ends(0, 1, 1));
    }

    private void acts() {
        for (int k = 0; k < 30 && x.count(4) > 0; k++) {
            add(x.undo(), x.count(3));
            for (int stone = 0; stone < x.count(1); stone++) {
                add(x.stone(stone, 1));
            }
        }
    }

    private void images() {
        for (int k = 0; k < 2; k++) {
            add(x.restore(k));
            road();
        }
    }

    private void tape() {
        add(Tape.feed(x, " 2;stone 7 3;"), x.road(), x.count(1), x.fault(), x.stone(0, 0), x.dare(1, 0));
    }

    private void rows() {
        Items.layRoad(x);
        for (int row = SPENT; row < ROWS; row++) {
            add(x.drop(row));
            Items.layRow(x, row, row - SPENT);
        }
        for (int row = 0; row < SPENT; row++) {
            for (int lane = 0; lane < 3; lane++) {
                int found = x.copy(row, 0, SPENT + lane, 0, 0);
                add(found);
                for (int i = 0; found == 0 && i <= 40; i++) {
                    int item = Items.read(x, row, i, SPENT + lane);
                    add(item);
                    found = item == Edges.PLACE ? item : 0;
                }
            }
        }
    }
}
