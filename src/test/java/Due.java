/** Counts and prints the answers that are not the ones due. */
final class Due {
    private int wrong;
    private int looked;
    private final String name;

    Due(String name) {
        this.name = name;
    }

    void is(String what, long answer, long due) {
        looked++;
        if (answer != due) {
            wrong++;
            System.out.println(name + ": " + what + " answered " + answer + ", due is " + due);
        }
    }

    void holds(String what, boolean holds) {
        is(what, holds ? 1 : 0, 1);
    }

    boolean isAllWell() {
        return wrong == 0;
    }

    void close() {
        System.out.println(name + ": " + looked + " looked at, " + wrong + " not as due");
        if (wrong != 0 || looked == 0) {
            System.exit(1);
        }
    }
}
