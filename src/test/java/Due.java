/** Counts and prints the answers that are not the ones due. */
final class Due {
    private int wrong;
    private int looked;
    private int sentences;
    private String sentence = "";
    private final String name;

    Due(String name) {
        this.name = name;
    }

    /** What is looked at from here on is a test of these words of the document, which stand at that place of it. */
    void by(String place, String words) {
        sentences++;
        sentence = place + ", \"" + words + "\": ";
    }

    void is(String what, long answer, long due) {
        looked++;
        if (answer != due) {
            wrong++;
            System.out.println(name + ": " + sentence + what + " answered " + answer + ", due is " + due);
        }
    }

    void holds(String what, boolean holds) {
        is(what, holds ? 1 : 0, 1);
    }

    boolean isAllWell() {
        return wrong == 0;
    }

    void close() {
        String by = sentences == 0 ? "" : ", by " + sentences + " sentences";
        System.out.println(name + ": " + looked + " looked at" + by + ", " + wrong + " not as due");
        if (wrong != 0 || looked == 0) {
            System.exit(1);
        }
    }
}
