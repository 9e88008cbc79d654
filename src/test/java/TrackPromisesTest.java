/** Promises 1 to 5, 24 and 25: vehicles come, go and move. */
public final class TrackPromisesTest {
    private static final int LOW = Integer.MIN_VALUE;
    private static final int HIGH = Integer.MAX_VALUE;
    private static final Due DUE = new Due("TrackPromisesTest");

    public static void main(String[] args) {
        newObjectIsEmpty();
        placePutsAVehicleInFront();
        placeRefusesOtherNumbers();
        placeTakesAWholeRun();
        takeAnswersTheLoad();
        takeRefuses();
        shuntKeepsTheOrder();
        shuntRefuses();
        shuntMovesNinetyNine();
        coupleGoesBehindTheLast();
        coupleRefuses();
        aboutTellsAll();
        aboutRefuses();
        countRefuses();
        DUE.end();
    }

    /** The weights of a track from its front, as one text. */
    private static void stands(TankSidings x, int track, String due) {
        StringBuilder row = new StringBuilder();
        for (int k = 0; x.about(track, k, 0) != 0; k++) {
            row.append(k == 0 ? "" : " ").append(x.about(track, k, 1));
        }
        DUE.is("track " + track + " stands as " + row + ", due is " + due, 1, row.toString().equals(due) ? 1 : 0);
        int size = due.isEmpty() ? 0 : due.split(" ").length;
        DUE.is("count(" + track + ") of " + due, size, x.count(track));
    }

    private static TankSidings threeOnTrackZero() {
        TankSidings x = new TankSidings();
        x.place(0, Due.WAGON, 3);
        x.place(0, Due.TANK, 2);
        x.place(0, Due.ENGINE, 1);
        return x;
    }

    private static void newObjectIsEmpty() {
        TankSidings x = new TankSidings();
        for (int t = 0; t < 6; t++) {
            DUE.is("count of a new track", 0, x.count(t));
            DUE.is("front of a new track", 0, x.about(t, 0, 0));
        }
        DUE.is("no siding", 0, x.away(0));
        DUE.is("no plan", 0, x.away(1));
        DUE.is("level at first", 0, x.level());
        for (int r = 1; r <= 7; r++) {
            DUE.is("reasons at first", 0, x.reasons(r));
        }
        TankSidings other = new TankSidings();
        x.place(0, Due.WAGON, 1);
        DUE.is("another object has its own tracks", 0, other.count(0));
    }

    private static void placePutsAVehicleInFront() {
        TankSidings x = new TankSidings();
        DUE.is("place an engine", 1, x.place(5, Due.ENGINE, 1));
        DUE.is("place a wagon", 2, x.place(5, Due.WAGON, 1000));
        DUE.is("place a tank", 3, x.place(5, Due.TANK, 7));
        stands(x, 5, "7 1000 1");
        DUE.is("sort 0", Due.TANK, x.about(5, 0, 0));
        DUE.is("sort 1", Due.WAGON, x.about(5, 1, 0));
        DUE.is("sort 2", Due.ENGINE, x.about(5, 2, 0));
        DUE.is("first on its own track", 1, x.place(0, Due.WAGON, 4));
    }

    private static void placeRefusesOtherNumbers() {
        TankSidings x = new TankSidings();
        for (int track : new int[] {LOW, -1, 6, HIGH}) {
            DUE.is("place on track " + track, Due.OUTSIDE, x.place(track, Due.WAGON, 5));
        }
        for (int sort : new int[] {LOW, -1, 0, 4, HIGH}) {
            DUE.is("place of sort " + sort, Due.OUTSIDE, x.place(0, sort, 5));
        }
        for (int weight : new int[] {LOW, -1, 0, 1001, HIGH}) {
            DUE.is("place of weight " + weight, Due.OUTSIDE, x.place(0, Due.WAGON, weight));
        }
        stands(x, 0, "");
    }

    private static void placeTakesAWholeRun() {
        TankSidings x = new TankSidings();
        for (int n = 1; n <= 512; n++) {
            DUE.is("place of call " + n, n, x.place(3, Due.TANK, 1000));
        }
    }

    private static void takeAnswersTheLoad() {
        TankSidings x = threeOnTrackZero();
        x.crates(0, 1, 3);
        x.load(0, 1, 0, 10);
        x.load(0, 1, 2, 99);
        DUE.is("take the engine", 1, x.take(0));
        stands(x, 0, "2 3");
        DUE.is("take with its crates", 111, x.take(0));
        DUE.is("take the last", 3, x.take(0));
        stands(x, 0, "");
        DUE.is("a track is used again", 1, x.place(0, Due.WAGON, 8));
        stands(x, 0, "8");
    }

    private static void takeRefuses() {
        TankSidings x = threeOnTrackZero();
        DUE.is("take(-1)", Due.OUTSIDE, x.take(-1));
        DUE.is("take(6)", Due.OUTSIDE, x.take(6));
        DUE.is("take of none", Due.NOTHING, x.take(1));
        DUE.is("it was told", 1, x.reasons(1));
        stands(x, 0, "1 2 3");
    }

    private static void shuntKeepsTheOrder() {
        TankSidings x = threeOnTrackZero();
        x.place(4, Due.WAGON, 9);
        x.place(4, Due.WAGON, 8);
        DUE.is("shunt two", 2, x.shunt(0, 2, 4));
        stands(x, 0, "3");
        stands(x, 4, "1 2 8 9");
        DUE.is("shunt all", 4, x.shunt(4, 4, 5));
        stands(x, 4, "");
        stands(x, 5, "1 2 8 9");
        DUE.is("shunt one back", 1, x.shunt(5, 1, 4));
        stands(x, 4, "1");
        stands(x, 5, "2 8 9");
    }

    private static void shuntRefuses() {
        TankSidings x = threeOnTrackZero();
        for (int n : new int[] {LOW, -1, 0, 100, HIGH}) {
            DUE.is("shunt of " + n, Due.OUTSIDE, x.shunt(0, n, 1));
        }
        for (int track : new int[] {LOW, -1, 6, HIGH}) {
            DUE.is("shunt from " + track, Due.OUTSIDE, x.shunt(track, 1, 1));
            DUE.is("shunt to " + track, Due.OUTSIDE, x.shunt(0, 1, track));
        }
        DUE.is("shunt to the same", Due.OUTSIDE, x.shunt(0, 1, 0));
        DUE.is("shunt of none to the same", Due.OUTSIDE, x.shunt(2, 1, 2));
        DUE.is("none told so far", 0, x.reasons(1));
        DUE.is("one too many", Due.NOTHING, x.shunt(0, 4, 1));
        DUE.is("from an empty track", Due.NOTHING, x.shunt(1, 1, 0));
        DUE.is("99 of three", Due.NOTHING, x.shunt(0, 99, 1));
        DUE.is("three told", 3, x.reasons(1));
        stands(x, 0, "1 2 3");
        stands(x, 1, "");
    }

    private static void shuntMovesNinetyNine() {
        TankSidings x = new TankSidings();
        for (int n = 1; n <= 100; n++) {
            x.place(0, Due.WAGON, n);
        }
        DUE.is("shunt of 99", 99, x.shunt(0, 99, 1));
        stands(x, 0, "1");
        DUE.is("count of 99", 99, x.count(1));
        DUE.is("front of 99", 100, x.about(1, 0, 1));
        DUE.is("last of 99", 2, x.about(1, 98, 1));
        DUE.is("none behind it", 0, x.about(1, 99, 1));
    }

    private static void coupleGoesBehindTheLast() {
        TankSidings x = threeOnTrackZero();
        x.place(2, Due.WAGON, 9);
        x.place(2, Due.WAGON, 8);
        DUE.is("couple", 5, x.couple(0, 2));
        stands(x, 0, "1 2 3 8 9");
        stands(x, 2, "");
        DUE.is("none is left to take", Due.NOTHING, x.take(2));
        DUE.is("none is left to draw", Due.NOTHING, x.draw(2));
        DUE.is("couple with an empty one", 5, x.couple(0, 2));
        stands(x, 0, "1 2 3 8 9");
        DUE.is("the emptied track is used again", 1, x.place(2, Due.TANK, 7));
        DUE.is("couple to a single one", 6, x.couple(2, 0));
        stands(x, 2, "7 1 2 3 8 9");
        stands(x, 0, "");
    }

    private static void coupleRefuses() {
        TankSidings x = threeOnTrackZero();
        for (int track : new int[] {LOW, -1, 6, HIGH}) {
            DUE.is("couple of " + track, Due.OUTSIDE, x.couple(track, 0));
            DUE.is("couple with " + track, Due.OUTSIDE, x.couple(0, track));
        }
        DUE.is("couple with itself", Due.OUTSIDE, x.couple(0, 0));
        DUE.is("couple of an empty one with itself", Due.OUTSIDE, x.couple(1, 1));
        DUE.is("none told so far", 0, x.reasons(1));
        DUE.is("couple to an empty track", Due.NOTHING, x.couple(1, 0));
        DUE.is("couple of two empty tracks", Due.NOTHING, x.couple(1, 2));
        DUE.is("two told", 2, x.reasons(1));
        stands(x, 0, "1 2 3");
        stands(x, 1, "");
    }

    private static void aboutTellsAll() {
        TankSidings x = threeOnTrackZero();
        x.defect(0, 1, 42);
        x.crates(0, 1, 12);
        DUE.is("sort", Due.TANK, x.about(0, 1, 0));
        DUE.is("weight", 2, x.about(0, 1, 1));
        x.load(0, 1, 0, 50);
        DUE.is("weight without crates", 2, x.about(0, 1, 1));
        DUE.is("level", 42, x.about(0, 1, 2));
        DUE.is("crates", 12, x.about(0, 1, 3));
        DUE.is("no defect", 0, x.about(0, 0, 2));
        DUE.is("crates of an engine", 0, x.about(0, 0, 3));
        DUE.is("crates of a wagon that has none", 0, x.about(0, 2, 3));
        for (int what = 0; what <= 3; what++) {
            DUE.is("there is none", 0, x.about(0, 3, what));
            DUE.is("there is none far away", 0, x.about(0, HIGH, what));
        }
        DUE.is("nothing told", 0, x.reasons(1));
    }

    private static void aboutRefuses() {
        TankSidings x = threeOnTrackZero();
        DUE.is("about(-1, 0, 0)", Due.OUTSIDE, x.about(-1, 0, 0));
        DUE.is("about(6, 0, 0)", Due.OUTSIDE, x.about(6, 0, 0));
        DUE.is("about(0, -1, 0)", Due.OUTSIDE, x.about(0, -1, 0));
        DUE.is("about(0, LOW, 0)", Due.OUTSIDE, x.about(0, LOW, 0));
        DUE.is("about(0, 0, -1)", Due.OUTSIDE, x.about(0, 0, -1));
        DUE.is("about(0, 0, 4)", Due.OUTSIDE, x.about(0, 0, 4));
        DUE.is("about(0, 9, 4)", Due.OUTSIDE, x.about(0, 9, 4));
    }

    private static void countRefuses() {
        TankSidings x = threeOnTrackZero();
        DUE.is("count(0)", 3, x.count(0));
        DUE.is("count(5)", 0, x.count(5));
        for (int track : new int[] {LOW, -1, 6, HIGH}) {
            DUE.is("count of " + track, Due.OUTSIDE, x.count(track));
        }
    }
}
