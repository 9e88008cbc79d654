/** Whole runs of 512 calls: "An object is used for at most 512 calls after it has been made", so the last one holds. */
public final class RunBoundsTest {
    private static final int CALLS = 512;
    private static final Due DUE = new Due("RunBoundsTest");

    public static void main(String[] args) {
        DUE.by("What it is: 512 calls");
        placesAll();
        placesAndLooksAtTheLast();
        drawsTheHeaviestTrain();
        couplesTheLongestTrack();
        shuntsByNinetyNine();
        takesAllThatWasPlaced();
        countsEveryReasonTold();
        refusesThenPlaces();
        stowsAndFetchesOneWagon();
        makesNewCratesEachCall();
        makesNewSidingsEachCall();
        makesNewPlansEachCall();
        DUE.end();
    }

    private static TankSidings row(int vehicles, int weight) {
        TankSidings x = new TankSidings();
        for (int n = 0; n < vehicles; n++) {
            x.place(0, Due.WAGON, weight);
        }
        return x;
    }

    private static void placesAll() {
        DUE.is("the 512th place", CALLS, row(CALLS - 1, 1).place(0, Due.TANK, 1000));
        DUE.is("the 512th place, on another track", 1, row(CALLS - 1, 1).place(5, Due.ENGINE, 1));
    }

    private static void placesAndLooksAtTheLast() {
        DUE.is("count(0)", CALLS - 1, row(CALLS - 1, 7).count(0));
        DUE.is("the last one", 7, row(CALLS - 1, 7).about(0, CALLS - 2, 1));
        DUE.is("none behind it", 0, row(CALLS - 1, 7).about(0, CALLS - 1, 1));
        DUE.is("its load", 7, row(CALLS - 1, 7).weigh(0, CALLS - 2));
        DUE.is("no load behind it", Due.NOTHING, row(CALLS - 1, 7).weigh(0, CALLS - 1));
    }

    private static void drawsTheHeaviestTrain() {
        int wagons = CALLS - 3;
        TankSidings x = row(wagons, 1000);
        x.place(0, Due.ENGINE, 1);
        DUE.is("draw(0)", Due.STALLED, x.draw(0));
        DUE.is("level()", wagons * 1000 - 10, x.level());
        TankSidings light = row(CALLS - 2, 19);
        light.place(0, Due.ENGINE, 1000);
        DUE.is("draw(0) of a light one", (CALLS - 2) * 19, light.draw(0));
    }

    private static void couplesTheLongestTrack() {
        TankSidings x = new TankSidings();
        for (int n = 1; n <= 255; n++) {
            x.place(0, Due.WAGON, n);
            x.place(5, Due.WAGON, 255 + n);
        }
        DUE.is("couple(5, 0)", 510, x.couple(5, 0));
        DUE.is("the last one", 1, x.about(5, 509, 1));
    }

    private static void shuntsByNinetyNine() {
        TankSidings x = new TankSidings();
        for (int n = 1; n <= 495; n++) {
            x.place(0, Due.WAGON, n);
        }
        for (int n = 0; n < 5; n++) {
            DUE.is("shunt(0, 99, 3)", 99, x.shunt(0, 99, 3));
        }
        DUE.is("none left", Due.NOTHING, x.shunt(0, 1, 3));
        DUE.is("count(3)", 495, x.count(3));
        for (int part = 0; part < 5; part++) {
            DUE.is("first of part " + part, 99 * (part + 1), x.about(3, 99 * part, 1));
            DUE.is("last of part " + part, 99 * part + 1, x.about(3, 99 * part + 98, 1));
        }
    }

    private static void takesAllThatWasPlaced() {
        TankSidings x = new TankSidings();
        for (int n = 1; n <= 255; n++) {
            x.place(2, Due.WAGON, n);
        }
        for (int n = 255; n >= 1; n--) {
            DUE.is("take(2)", n, x.take(2));
        }
        DUE.is("none left", Due.NOTHING, x.take(2));
        DUE.is("count(2)", 0, x.count(2));
    }

    private static void countsEveryReasonTold() {
        TankSidings x = new TankSidings();
        for (int n = 1; n < CALLS; n++) {
            DUE.is("take(0)", Due.NOTHING, x.take(0));
        }
        DUE.is("reasons(1)", CALLS - 1, x.reasons(1));
        TankSidings y = new TankSidings();
        for (int n = 1; n < CALLS; n++) {
            DUE.is("siding(-1, true)", Due.SIZE, y.siding(-1, true));
        }
        DUE.is("reasons(4)", CALLS - 1, y.reasons(4));
    }

    private static void refusesThenPlaces() {
        TankSidings x = new TankSidings();
        for (int n = 1; n < CALLS; n++) {
            DUE.is("place(6, 1, 1)", Due.OUTSIDE, x.place(6, Due.ENGINE, 1));
        }
        DUE.is("place(5, 1, 1)", 1, x.place(5, Due.ENGINE, 1));
    }

    private static void stowsAndFetchesOneWagon() {
        TankSidings x = new TankSidings();
        x.siding(12, true);
        x.place(0, Due.TANK, 9);
        for (int n = 0; n < (CALLS - 2) / 2; n++) {
            DUE.is("stow", 0, x.stow(n % 12, n % 6));
            DUE.is("fetch", 1, x.fetch(n % 12, (n + 1) % 6));
        }
    }

    private static void makesNewCratesEachCall() {
        TankSidings x = row(1, 5);
        for (int n = 2; n < CALLS; n++) {
            DUE.is("crates", n % 13, x.crates(0, 0, n % 13));
        }
        DUE.is("length", (CALLS - 1) % 13, x.length(0, 0));
    }

    private static void makesNewSidingsEachCall() {
        TankSidings x = new TankSidings();
        for (int n = 1; n < CALLS; n++) {
            DUE.is("siding", n % 13, x.siding(n % 13, n % 2 == 0));
        }
        DUE.is("room", (CALLS - 1) % 13, x.room());
    }

    private static void makesNewPlansEachCall() {
        TankSidings x = new TankSidings();
        for (int n = 1; n < CALLS; n++) {
            DUE.is("plan", 144, x.plan(12, 12));
        }
        DUE.is("noted", 0, x.noted(11, 11));
    }
}
