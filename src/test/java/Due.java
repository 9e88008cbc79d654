/** Counts and prints the answers that are not the ones that are due. */
final class Due {
    static final int NOTHING = -11;
    static final int KIND = -12;
    static final int NARROW = -13;
    static final int SIZE = -14;
    static final int PLACE = -15;
    static final int STALLED = -16;
    static final int DEFECT = -17;
    static final int OUTSIDE = -1;

    static final int ENGINE = 1;
    static final int WAGON = 2;
    static final int TANK = 3;

    /** A fault in a run of many thousand calls would bury the first row, the one that tells most. */
    private static final int MOST_PRINTED = 50;

    private final String name;
    private String sentence = "";
    private int asked;
    private int wrong;

    Due(String name) {
        this.name = name;
    }

    /** The document's words that the answers from here on are due to. */
    void by(String words) {
        sentence = " [" + words + "]";
    }

    void is(String what, int due, int got) {
        count(due == got, what + " answered " + got + ", due is " + due);
    }

    void same(String what, String due, String got) {
        count(due.equals(got), what + "\n  is  " + got + "\n  due " + due);
    }

    private void count(boolean asDue, String told) {
        asked++;
        if (!asDue) {
            wrong++;
            if (wrong <= MOST_PRINTED) {
                System.out.println(name + sentence + ": " + told);
            }
        }
    }

    void end() {
        System.out.println(name + ": " + asked + " answers, " + wrong + " not as due");
        if (wrong != 0 || asked == 0) {
            System.exit(1);
        }
    }
}
