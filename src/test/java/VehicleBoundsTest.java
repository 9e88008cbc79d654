import java.util.function.Supplier;

/** The boundary cases of promises 6 to 14 and 26, a method for each sentence. */
public final class VehicleBoundsTest {
    private static final Due DUE = new Due("VehicleBoundsTest");
    private static final Unchanged UNCHANGED = new Unchanged(DUE);
    private static final int TRAIN = Yard.TRAIN;
    private static final int LOADED = Yard.LOADED;
    private static final int FAR = Integer.MAX_VALUE;

    /** A call that takes a TRACK and a VEHICLE of it. */
    private interface OfVehicle {
        int on(TankSidings x, int track, int k);
    }

    public static void main(String[] args) {
        cratesAreTwelveAtMost();
        cratesAreAllZero();
        cratesOfZeroAreNotNone();
        cratesRefuseKBelowZero();
        cratesTellKind();
        cratesTellSize();
        cratesTellNothing();

        loadTakesZeroToNinetyNine();
        loadTellsKind();
        loadTellsNoVehicle();
        loadTellsNoCrates();
        loadTellsPlace();
        crateTellsKind();
        crateTellsNothing();
        crateTellsPlace();
        lengthTellsHowMany();
        lengthTellsKind();
        lengthTellsNothing();

        weighAddsAllCrates();
        weighTellsNothing();
        defectTakesOneToNinetyNine();
        defectOfZeroIsNone();
        defectTellsNothing();
        reportTellsTheDefect();
        reportTellsNoVehicle();
        reportTellsNoDefect();
        callsOfAVehicleRefuseOtherNumbers();

        drawAddsWhatIsBehind();
        drawOfAnEngineAlone();
        drawTellsKind();
        drawTellsNothing();
        drawTellsDefectFromFifty();
        drawTellsTheFirstDefect();
        drawPassesOverTheEnginesOwnDefect();
        drawTellsStalledAboveTenTimes();
        drawTellsDefectAheadOfStalled();
        drawRefusesOtherTracks();

        levelIsOfTheLatest();
        levelStaysBehindAllOtherCalls();
        reasonsAreOneToSeven();
        reasonsCountEachOnce();
        DUE.end();
    }

    private static void cratesAreTwelveAtMost() {
        DUE.by("6 crates: n CRATES (12 at most)");
        for (int n : new int[] {0, 1, 11, 12}) {
            TankSidings x = Yard.bare();
            DUE.is("crates(0, 1, " + n + ")", n, x.crates(TRAIN, LOADED, n));
            DUE.is("length", n, x.length(TRAIN, LOADED));
            DUE.is("no crate behind the last", Due.PLACE, x.crate(TRAIN, LOADED, n));
        }
        for (int n : Edge.above(12)) {
            UNCHANGED.outside("a WAGON, " + n, x -> x.crates(TRAIN, LOADED, n));
            UNCHANGED.outside("an ENGINE, " + n, x -> x.crates(TRAIN, Yard.ENGINE, n));
            UNCHANGED.outside("no VEHICLE, " + n, x -> x.crates(Yard.EMPTY, 0, n));
        }
    }

    private static void cratesAreAllZero() {
        DUE.by("6 crates: all 0");
        TankSidings x = Yard.bare();
        DUE.is("as many as before", 3, x.crates(TRAIN, LOADED, 3));
        DUE.same("all 0", "2 30 0 (0 0 0)", Yard.seenVehicle(x, TRAIN, LOADED));
        DUE.is("more", 12, x.crates(TRAIN, LOADED, 12));
        DUE.same("all 0", "2 30 0 (0 0 0 0 0 0 0 0 0 0 0 0)", Yard.seenVehicle(x, TRAIN, LOADED));
        x.load(TRAIN, LOADED, 0, 99);
        DUE.is("fewer", 1, x.crates(TRAIN, LOADED, 1));
        DUE.same("all 0", "2 30 0 (0)", Yard.seenVehicle(x, TRAIN, LOADED));
        DUE.is("a TANK", 2, x.crates(TRAIN, Yard.WITHOUT_CRATES, 2));
        DUE.same("with its DEFECT", "3 40 49 (0 0)", Yard.seenVehicle(x, TRAIN, Yard.WITHOUT_CRATES));
        DUE.is("the other's stay", 0, x.length(TRAIN, Yard.ZERO_CRATES));
    }

    private static void cratesOfZeroAreNotNone() {
        DUE.by("6 crates: 0 CRATES beside none");
        UNCHANGED.answers("length of 0", 0, Yard::bare, x -> x.length(TRAIN, Yard.ZERO_CRATES));
        UNCHANGED.answers("length of none", Due.NOTHING, Yard::bare, x -> x.length(TRAIN, Yard.WITHOUT_CRATES));
        UNCHANGED.answers("crate of 0", Due.PLACE, Yard::bare, x -> x.crate(TRAIN, Yard.ZERO_CRATES, 0));
        UNCHANGED.answers("crate of none", Due.NOTHING, Yard::bare, x -> x.crate(TRAIN, Yard.WITHOUT_CRATES, 0));
        UNCHANGED.answers("load of 0", Due.PLACE, Yard::bare, x -> x.load(TRAIN, Yard.ZERO_CRATES, 0, 1));
        UNCHANGED.answers("load of none", Due.NOTHING, Yard::bare, x -> x.load(TRAIN, Yard.WITHOUT_CRATES, 0, 1));
        UNCHANGED.answers("weigh of 0", 20, Yard::bare, x -> x.weigh(TRAIN, Yard.ZERO_CRATES));
        TankSidings x = Yard.bare();
        DUE.is("0 in place of 3", 0, x.crates(TRAIN, LOADED, 0));
        DUE.same("they are gone", "2 30 0 ()", Yard.seenVehicle(x, TRAIN, LOADED));
    }

    private static void cratesRefuseKBelowZero() {
        DUE.by("6 crates, OUTSIDE: also k is below 0");
        for (int k : Edge.below(0)) {
            UNCHANGED.outside("k " + k, x -> x.crates(TRAIN, k, 1));
            UNCHANGED.outside("no VEHICLE, k " + k, x -> x.crates(Yard.EMPTY, k, 1));
            UNCHANGED.outside("ahead of SIZE, k " + k, x -> x.crates(TRAIN, k, -1));
        }
    }

    private static void cratesTellKind() {
        DUE.by("6 crates: KIND, ahead of SIZE");
        for (int n : new int[] {0, 1, 12, -1, Integer.MIN_VALUE}) {
            UNCHANGED.answers("n " + n, Due.KIND, Yard::narrow, x -> x.crates(TRAIN, Yard.ENGINE, n));
        }
        TankSidings x = Yard.bare();
        x.shunt(TRAIN, 4, Yard.WAGON_FIRST);
        DUE.is("an ENGINE goes on as one", Due.KIND, x.crates(Yard.WAGON_FIRST, 0, 1));
    }

    private static void cratesTellSize() {
        DUE.by("6 crates: SIZE, ahead of NOTHING");
        for (int n : Edge.below(0)) {
            UNCHANGED.answers("a WAGON, " + n, Due.SIZE, Yard::narrow, x -> x.crates(TRAIN, LOADED, n));
            UNCHANGED.answers("a TANK, " + n, Due.SIZE, Yard::narrow, x -> x.crates(TRAIN, Yard.WITHOUT_CRATES, n));
            UNCHANGED.answers("no VEHICLE, " + n, Due.SIZE, Yard::narrow, x -> x.crates(TRAIN, Yard.NONE, n));
            UNCHANGED.answers("an empty TRACK, " + n, Due.SIZE, TankSidings::new, x -> x.crates(0, 0, n));
        }
    }

    private static void cratesTellNothing() {
        DUE.by("6 crates: NOTHING");
        for (int n : new int[] {0, 1, 12}) {
            tellsOfNone("n " + n, (x, track, k) -> x.crates(track, k, n));
        }
    }

    /** NOTHING just behind the last VEHICLE, far behind it, and on an empty TRACK. */
    private static void tellsOfNone(String what, OfVehicle call) {
        UNCHANGED.answers(what + ", behind the last", Due.NOTHING, Yard::narrow, x -> call.on(x, TRAIN, Yard.NONE));
        UNCHANGED.answers(what + ", far behind it", Due.NOTHING, Yard::narrow, x -> call.on(x, TRAIN, FAR));
        UNCHANGED.answers(what + ", far behind one", Due.NOTHING, Yard::open, x -> call.on(x, Yard.TANK_FIRST, 65536));
        UNCHANGED.answers(what + ", on an empty TRACK", Due.NOTHING, Yard::bare, x -> call.on(x, Yard.EMPTY, 0));
        UNCHANGED.answers(what + ", in a new yard", Due.NOTHING, TankSidings::new, x -> call.on(x, 0, FAR));
    }

    private static void loadTakesZeroToNinetyNine() {
        DUE.by("7 load: becomes 0 to 99: that");
        TankSidings x = Yard.bare();
        for (int v : new int[] {0, 1, 98, 99, 0}) {
            DUE.is("load(0, 1, 2, " + v + ")", v, x.load(TRAIN, LOADED, 2, v));
            DUE.is("crate", v, x.crate(TRAIN, LOADED, 2));
            DUE.same("no other", "2 30 0 (7 0 " + v + ")", Yard.seenVehicle(x, TRAIN, LOADED));
        }
        for (int v : Edge.outside(0, 99)) {
            UNCHANGED.outside("v " + v, y -> y.load(TRAIN, LOADED, 0, v));
            UNCHANGED.outside("ahead of KIND, v " + v, y -> y.load(TRAIN, Yard.ENGINE, 0, v));
            UNCHANGED.outside("ahead of NOTHING, v " + v, y -> y.load(TRAIN, Yard.NONE, 0, v));
            UNCHANGED.outside("ahead of PLACE, v " + v, y -> y.load(TRAIN, LOADED, 3, v));
        }
    }

    private static void loadTellsKind() {
        DUE.by("7 load: KIND, ahead of NOTHING and PLACE");
        for (int i : new int[] {0, 12, -1, FAR, Integer.MIN_VALUE}) {
            UNCHANGED.answers("i " + i, Due.KIND, Yard::narrow, x -> x.load(TRAIN, Yard.ENGINE, i, 1));
        }
    }

    private static void loadTellsNoVehicle() {
        DUE.by("7 load, NOTHING: no VEHICLE, ahead of PLACE");
        for (int i : new int[] {0, -1, FAR}) {
            tellsOfNone("i " + i, (x, track, k) -> x.load(track, k, i, 1));
        }
    }

    private static void loadTellsNoCrates() {
        DUE.by("7 load, NOTHING: no CRATES, ahead of PLACE");
        for (int i : new int[] {0, -1, FAR}) {
            UNCHANGED.answers("i " + i, Due.NOTHING, Yard::narrow, x -> x.load(TRAIN, Yard.WITHOUT_CRATES, i, 1));
            UNCHANGED.answers("i " + i, Due.NOTHING, Yard::narrow, x -> x.load(Yard.WAGON_FIRST, 0, i, 1));
        }
    }

    private static void loadTellsPlace() {
        DUE.by("7 load, PLACE: i");
        TankSidings x = Yard.bare();
        DUE.is("the first", 4, x.load(TRAIN, LOADED, 0, 4));
        DUE.is("the last", 5, x.load(TRAIN, LOADED, 2, 5));
        for (int i : Edge.outside(0, 2)) {
            UNCHANGED.answers("i " + i, Due.PLACE, Yard::narrow, y -> y.load(TRAIN, LOADED, i, 1));
            UNCHANGED.answers("of 0, i " + i, Due.PLACE, Yard::narrow, y -> y.load(TRAIN, Yard.ZERO_CRATES, i, 1));
        }
        x.crates(TRAIN, LOADED, 12);
        DUE.is("the twelfth", 6, x.load(TRAIN, LOADED, 11, 6));
        DUE.is("no thirteenth", Due.PLACE, x.load(TRAIN, LOADED, 12, 6));
    }

    private static void crateTellsKind() {
        DUE.by("8 crate: KIND, ahead of NOTHING and PLACE");
        for (int i : new int[] {0, 12, -1, FAR, Integer.MIN_VALUE}) {
            UNCHANGED.answers("i " + i, Due.KIND, Yard::narrow, x -> x.crate(TRAIN, Yard.ENGINE, i));
        }
    }

    private static void crateTellsNothing() {
        DUE.by("8 crate: NOTHING, ahead of PLACE");
        for (int i : new int[] {0, -1, FAR}) {
            tellsOfNone("i " + i, (x, track, k) -> x.crate(track, k, i));
            UNCHANGED.answers("no CRATES, i " + i, Due.NOTHING, Yard::narrow,
                x -> x.crate(TRAIN, Yard.WITHOUT_CRATES, i));
        }
    }

    private static void crateTellsPlace() {
        DUE.by("8 crate: PLACE");
        UNCHANGED.answers("the first", 7, Yard::narrow, x -> x.crate(TRAIN, LOADED, 0));
        UNCHANGED.answers("one of 0", 0, Yard::narrow, x -> x.crate(TRAIN, LOADED, 1));
        UNCHANGED.answers("the last", 99, Yard::narrow, x -> x.crate(TRAIN, LOADED, 2));
        for (int i : Edge.outside(0, 2)) {
            UNCHANGED.answers("i " + i, Due.PLACE, Yard::narrow, x -> x.crate(TRAIN, LOADED, i));
            UNCHANGED.answers("of 0, i " + i, Due.PLACE, Yard::narrow, x -> x.crate(TRAIN, Yard.ZERO_CRATES, i));
        }
    }

    private static void lengthTellsHowMany() {
        DUE.by("9 length: how many CRATES");
        UNCHANGED.answers("3", 3, Yard::narrow, x -> x.length(TRAIN, LOADED));
        UNCHANGED.answers("0", 0, Yard::narrow, x -> x.length(TRAIN, Yard.ZERO_CRATES));
        UNCHANGED.answers("2 of a TANK", 2, Yard::narrow, x -> x.length(Yard.TANK_FIRST, 0));
    }

    private static void lengthTellsKind() {
        DUE.by("9 length: KIND, ahead of NOTHING");
        UNCHANGED.answers("the FRONT", Due.KIND, Yard::narrow, x -> x.length(TRAIN, Yard.ENGINE));
        Supplier<TankSidings> engineBehind = () -> {
            TankSidings x = Yard.narrow();
            x.couple(TRAIN, Yard.BROKEN);
            return x;
        };
        UNCHANGED.answers("one behind it", Due.KIND, engineBehind, x -> x.length(TRAIN, 4));
    }

    private static void lengthTellsNothing() {
        DUE.by("9 length, NOTHING: no VEHICLE, no CRATES");
        tellsOfNone("length", TankSidings::length);
        UNCHANGED.answers("no CRATES", Due.NOTHING, Yard::narrow, x -> x.length(TRAIN, Yard.WITHOUT_CRATES));
        UNCHANGED.answers("no CRATES of a WAGON", Due.NOTHING, Yard::narrow, x -> x.length(Yard.WAGON_FIRST, 0));
    }

    private static void weighAddsAllCrates() {
        DUE.by("10 weigh: its WEIGHT and all its CRATES together");
        UNCHANGED.answers("an ENGINE", 100, Yard::narrow, x -> x.weigh(TRAIN, Yard.ENGINE));
        UNCHANGED.answers("the first and the last crate", 136, Yard::narrow, x -> x.weigh(TRAIN, LOADED));
        UNCHANGED.answers("no CRATES", 40, Yard::narrow, x -> x.weigh(TRAIN, Yard.WITHOUT_CRATES));
        UNCHANGED.answers("0 CRATES", 20, Yard::narrow, x -> x.weigh(TRAIN, Yard.ZERO_CRATES));
        TankSidings x = new TankSidings();
        x.place(0, Due.TANK, 1000);
        x.crates(0, 0, 12);
        for (int i = 0; i < 12; i++) {
            x.load(0, 0, i, 99);
            DUE.is("crate by crate", 1000 + 99 * (i + 1), x.weigh(0, 0));
        }
    }

    private static void weighTellsNothing() {
        DUE.by("10 weigh: NOTHING");
        tellsOfNone("weigh", TankSidings::weigh);
    }

    private static void defectTakesOneToNinetyNine() {
        DUE.by("11 defect: its level 1 to 99");
        TankSidings x = Yard.bare();
        for (int level : new int[] {1, 2, 49, 50, 98, 99}) {
            for (int k = 0; k < Yard.NONE; k++) {
                DUE.is("defect(0, " + k + ", " + level + ")", level, x.defect(TRAIN, k, level));
                DUE.is("its level", level, x.about(TRAIN, k, 2));
            }
        }
        DUE.is("level()", 0, x.level());
        DUE.is("none was reported", 0, x.reasons(7));
        for (int level : Edge.outside(0, 99)) {
            UNCHANGED.outside("level " + level, y -> y.defect(TRAIN, Yard.WITHOUT_CRATES, level));
            UNCHANGED.outside("ahead of NOTHING, level " + level, y -> y.defect(TRAIN, Yard.NONE, level));
        }
    }

    private static void defectOfZeroIsNone() {
        DUE.by("11 defect: or none (0)");
        TankSidings x = Yard.bare();
        DUE.is("none in place of 49", 0, x.defect(TRAIN, Yard.WITHOUT_CRATES, 0));
        DUE.is("about", 0, x.about(TRAIN, Yard.WITHOUT_CRATES, 2));
        DUE.is("report", Due.NOTHING, x.report(TRAIN, Yard.WITHOUT_CRATES));
        UNCHANGED.answers("none where there is none", 0, Yard::narrow, y -> y.defect(TRAIN, LOADED, 0));
        DUE.is("none in place of 98", 0, x.defect(Yard.BROKEN, 1, 0));
        DUE.is("none in place of 99", 0, x.defect(Yard.BROKEN, 2, 0));
        DUE.is("draw", 17, x.draw(Yard.BROKEN));
    }

    private static void defectTellsNothing() {
        DUE.by("11 defect: NOTHING");
        for (int level : new int[] {0, 1, 99}) {
            tellsOfNone("level " + level, (x, track, k) -> x.defect(track, k, level));
        }
    }

    private static Supplier<TankSidings> withDefect(int k, int level) {
        return () -> {
            TankSidings x = Yard.narrow();
            x.defect(TRAIN, k, level);
            return x;
        };
    }

    private static void reportTellsTheDefect() {
        DUE.by("12 report: the DEFECT is reported");
        for (int level : new int[] {1, 49, 50, 99}) {
            for (int k = 0; k < Yard.NONE; k++) {
                int asked = k;
                UNCHANGED.answersWithLevel("VEHICLE " + k + " of level " + level, Due.DEFECT, level,
                    withDefect(k, level), x -> x.report(TRAIN, asked));
            }
        }
        TankSidings x = Yard.bare();
        DUE.is("once", Due.DEFECT, x.report(Yard.TANK_FIRST, 0));
        DUE.is("again", Due.DEFECT, x.report(Yard.TANK_FIRST, 0));
        DUE.is("twice told", 2, x.reasons(7));
    }

    private static void reportTellsNoVehicle() {
        DUE.by("12 report, NOTHING: no VEHICLE");
        tellsOfNone("report", TankSidings::report);
    }

    private static void reportTellsNoDefect() {
        DUE.by("12 report, NOTHING: no DEFECT");
        UNCHANGED.answers("a WAGON", Due.NOTHING, Yard::narrow, x -> x.report(TRAIN, LOADED));
        UNCHANGED.answers("an ENGINE", Due.NOTHING, Yard::narrow, x -> x.report(TRAIN, Yard.ENGINE));
        UNCHANGED.answers("a TANK that is mended", Due.NOTHING, withDefect(Yard.WITHOUT_CRATES, 0),
            x -> x.report(TRAIN, Yard.WITHOUT_CRATES));
    }

    private static void callsOfAVehicleRefuseOtherNumbers() {
        refusesOtherVehicles("6 crates", (x, track, k) -> x.crates(track, k, 1));
        refusesOtherVehicles("7 load", (x, track, k) -> x.load(track, k, 0, 1));
        refusesOtherVehicles("8 crate", (x, track, k) -> x.crate(track, k, 0));
        refusesOtherVehicles("9 length", TankSidings::length);
        refusesOtherVehicles("10 weigh", TankSidings::weigh);
        refusesOtherVehicles("11 defect", (x, track, k) -> x.defect(track, k, 1));
        refusesOtherVehicles("12 report", TankSidings::report);
    }

    private static void refusesOtherVehicles(String promise, OfVehicle call) {
        DUE.by(promise + ": OUTSIDE");
        for (int track : Edge.outside(0, 5)) {
            UNCHANGED.outside("track " + track, x -> call.on(x, track, 0));
            UNCHANGED.outside("track " + track + ", far behind", x -> call.on(x, track, FAR));
        }
        for (int k : Edge.below(0)) {
            UNCHANGED.outside("k " + k, x -> call.on(x, TRAIN, k));
            UNCHANGED.outside("k " + k + " of an empty track", x -> call.on(x, Yard.EMPTY, k));
        }
        for (int track = 0; track < 5; track++) {
            int answer = call.on(Yard.bare(), track, 0);
            DUE.is("track " + track + " is one", 0, answer == Due.OUTSIDE ? 1 : 0);
        }
        DUE.is("track 5 is one", Due.NOTHING, call.on(Yard.bare(), Yard.EMPTY, 0));
    }

    private static void drawAddsWhatIsBehind() {
        DUE.by("13 draw: all that is BEHIND it, their LOADS together");
        UNCHANGED.answers("draw(0)", 136 + 40 + 20, Yard::narrow, x -> x.draw(TRAIN));
        Supplier<TankSidings> twoEngines = () -> {
            TankSidings x = Yard.narrow();
            x.place(TRAIN, Due.ENGINE, 30);
            return x;
        };
        UNCHANGED.answers("an ENGINE is BEHIND it too", 100 + 136 + 40 + 20, twoEngines, x -> x.draw(TRAIN));
    }

    private static void drawOfAnEngineAlone() {
        DUE.by("13 draw: an ENGINE that has none BEHIND it");
        Supplier<TankSidings> alone = () -> {
            TankSidings x = Yard.narrow();
            x.place(Yard.EMPTY, Due.ENGINE, 1);
            return x;
        };
        UNCHANGED.answers("draw(5)", 0, alone, x -> x.draw(Yard.EMPTY));
    }

    private static void drawTellsKind() {
        DUE.by("13 draw, KIND: a WAGON, ahead of DEFECT and STALLED");
        UNCHANGED.answers("a WAGON", Due.KIND, Yard::narrow, x -> x.draw(Yard.WAGON_FIRST));
        UNCHANGED.answers("a TANK", Due.KIND, Yard::narrow, x -> x.draw(Yard.TANK_FIRST));
        for (int sort = Due.WAGON; sort <= Due.TANK; sort++) {
            int first = sort;
            Supplier<TankSidings> aheadOfDefect = () -> {
                TankSidings x = Yard.narrow();
                x.place(Yard.BROKEN, first, 1);
                return x;
            };
            UNCHANGED.answers("sort " + sort, Due.KIND, aheadOfDefect, x -> x.draw(Yard.BROKEN));
        }
        TankSidings x = Yard.bare();
        x.place(TRAIN, Due.WAGON, 1);
        DUE.is("an ENGINE behind the FRONT", Due.KIND, x.draw(TRAIN));
    }

    private static void drawTellsNothing() {
        DUE.by("13 draw: NOTHING");
        UNCHANGED.answers("draw(5)", Due.NOTHING, Yard::narrow, x -> x.draw(Yard.EMPTY));
        UNCHANGED.answers("draw(0)", Due.NOTHING, TankSidings::new, x -> x.draw(0));
    }

    private static void drawTellsDefectFromFifty() {
        DUE.by("13 draw, DEFECT: whose level is 50 or more");
        for (int k = 1; k < Yard.NONE; k++) {
            for (int level : new int[] {1, 48, 49}) {
                UNCHANGED.answers("level " + level + " of VEHICLE " + k, 196, withDefect(k, level), x -> x.draw(TRAIN));
            }
            for (int level : new int[] {50, 51, 99}) {
                UNCHANGED.answersWithLevel("level " + level + " of VEHICLE " + k, Due.DEFECT, level,
                    withDefect(k, level), x -> x.draw(TRAIN));
            }
        }
    }

    private static void drawTellsTheFirstDefect() {
        DUE.by("13 draw, DEFECT: that of the first one BEHIND it");
        UNCHANGED.answersWithLevel("98, then 99", Due.DEFECT, 98, Yard::narrow, x -> x.draw(Yard.BROKEN));
        TankSidings x = Yard.bare();
        x.defect(Yard.BROKEN, 1, 49);
        x.defect(Yard.BROKEN, 2, 50);
        DUE.is("49, then 50", Due.DEFECT, x.draw(Yard.BROKEN));
        DUE.is("level()", 50, x.level());
        x.defect(Yard.BROKEN, 1, 99);
        DUE.is("99, then 50", Due.DEFECT, x.draw(Yard.BROKEN));
        DUE.is("level()", 99, x.level());
    }

    private static void drawPassesOverTheEnginesOwnDefect() {
        DUE.by("13 draw, DEFECT: BEHIND it, not its own");
        UNCHANGED.answers("99 of the FRONT", 196, withDefect(Yard.ENGINE, 99), x -> x.draw(TRAIN));
        TankSidings x = withDefect(Yard.ENGINE, 99).get();
        x.place(TRAIN, Due.ENGINE, 1000);
        DUE.is("99 of an ENGINE BEHIND it", Due.DEFECT, x.draw(TRAIN));
        DUE.is("level()", 99, x.level());
    }

    /** An ENGINE of a WEIGHT and, BEHIND it, that much in WAGONS of up to 1000. */
    private static Supplier<TankSidings> engineBefore(int weight, int behind) {
        return () -> {
            TankSidings x = new TankSidings();
            for (int left = behind; left > 0; left -= 1000) {
                x.place(0, Due.WAGON, Math.min(left, 1000));
            }
            x.place(0, Due.ENGINE, weight);
            return x;
        };
    }

    private static void drawTellsStalledAboveTenTimes() {
        DUE.by("13 draw, STALLED: more than 10 times its WEIGHT");
        for (int weight : new int[] {1, 2, 100, 999, 1000}) {
            int most = 10 * weight;
            UNCHANGED.answers("one less", most - 1, engineBefore(weight, most - 1), x -> x.draw(0));
            UNCHANGED.answers("10 times", most, engineBefore(weight, most), x -> x.draw(0));
            UNCHANGED.answersWithLevel("one more", Due.STALLED, 1, engineBefore(weight, most + 1), x -> x.draw(0));
            UNCHANGED.answersWithLevel("far more", Due.STALLED, 20000, engineBefore(weight, most + 20000),
                x -> x.draw(0));
        }
        TankSidings x = engineBefore(3, 30).get();
        x.crates(0, 1, 12);
        DUE.is("CRATES of 0", 30, x.draw(0));
        x.load(0, 1, 11, 1);
        DUE.is("a crate of 1", Due.STALLED, x.draw(0));
        DUE.is("level()", 1, x.level());
        UNCHANGED.answersWithLevel("11 of 1", Due.STALLED, 1, Yard::narrow, y -> y.draw(Yard.TOO_HEAVY));
    }

    private static void drawTellsDefectAheadOfStalled() {
        DUE.by("13 draw: DEFECT ahead of STALLED");
        for (int level : new int[] {49, 50}) {
            Supplier<TankSidings> both = () -> {
                TankSidings x = Yard.narrow();
                x.defect(Yard.TOO_HEAVY, 1, level);
                return x;
            };
            boolean grave = level == 50;
            UNCHANGED.answersWithLevel("level " + level, grave ? Due.DEFECT : Due.STALLED, grave ? 50 : 1, both,
                x -> x.draw(Yard.TOO_HEAVY));
        }
    }

    private static void drawRefusesOtherTracks() {
        DUE.by("13 draw: OUTSIDE");
        for (int track : Edge.outside(0, 5)) {
            UNCHANGED.outside("draw(" + track + ")", x -> x.draw(track));
        }
        for (int track = 0; track <= 5; track++) {
            TankSidings x = new TankSidings();
            x.place(track, Due.WAGON, 10 + track);
            x.place(track, Due.ENGINE, 10);
            DUE.is("draw(" + track + ")", 10 + track, x.draw(track));
        }
    }

    private static void levelIsOfTheLatest() {
        DUE.by("14 level: whichever was told later");
        TankSidings x = Yard.bare();
        x.draw(Yard.TOO_HEAVY);
        DUE.is("STALLED", 1, x.level());
        x.report(TRAIN, Yard.WITHOUT_CRATES);
        DUE.is("DEFECT of report, behind STALLED", 49, x.level());
        x.draw(Yard.TOO_HEAVY);
        DUE.is("STALLED, behind DEFECT", 1, x.level());
        x.draw(Yard.BROKEN);
        DUE.is("DEFECT of draw, behind STALLED", 98, x.level());
        x.report(Yard.TANK_FIRST, 0);
        DUE.is("DEFECT, behind a higher one", 50, x.level());
        x.place(Yard.TOO_HEAVY, Due.ENGINE, 1);
        x.place(Yard.TOO_HEAVY, Due.WAGON, 1000);
        x.place(Yard.TOO_HEAVY, Due.ENGINE, 1);
        x.draw(Yard.TOO_HEAVY);
        DUE.is("STALLED by more than 99", 1003, x.level());
        DUE.is("asked again", 1003, x.level());
    }

    private static void levelStaysBehindAllOtherCalls() {
        DUE.by("14 level: the latest that was told, whatever comes behind it");
        TankSidings x = Yard.narrow();
        x.draw(Yard.BROKEN);
        x.defect(Yard.BROKEN, 1, 0);
        x.defect(Yard.BROKEN, 2, 0);
        DUE.is("mended", 98, x.level());
        DUE.is("goes well", 17, x.draw(Yard.BROKEN));
        DUE.is("KIND", Due.KIND, x.draw(Yard.WAGON_FIRST));
        DUE.is("NOTHING", Due.NOTHING, x.report(Yard.BROKEN, 1));
        DUE.is("NARROW", Due.NARROW, x.stow(0, Yard.WAGON_FIRST));
        DUE.is("SIZE", Due.SIZE, x.plan(-1, 0));
        DUE.is("PLACE", Due.PLACE, x.wide(2));
        DUE.is("OUTSIDE", Due.OUTSIDE, x.draw(6));
        for (int n = 0; n < 3; n++) {
            x.take(Yard.BROKEN);
        }
        DUE.is("level()", 98, x.level());
    }

    private static void reasonsAreOneToSeven() {
        DUE.by("26 reasons: a REASON (1 to 7)");
        for (int r = 1; r <= 7; r++) {
            int asked = r;
            UNCHANGED.answers("none told, reasons(" + r + ")", 0, TankSidings::new, x -> x.reasons(asked));
            UNCHANGED.answers("each told once, reasons(" + r + ")", 1, Yard::narrow, x -> x.reasons(asked));
        }
        for (int r : Edge.outside(1, 7)) {
            UNCHANGED.outside("reasons(" + r + ")", x -> x.reasons(r));
        }
        for (int r = -17; r <= -11; r++) {
            int asked = r;
            UNCHANGED.outside("reasons(" + r + ")", x -> x.reasons(asked));
        }
    }

    private static void reasonsCountEachOnce() {
        DUE.by("26 reasons: how often one was told");
        Yard.Call[] tellers = {
            x -> x.take(Yard.EMPTY), x -> x.length(TRAIN, Yard.ENGINE), x -> x.stow(0, Yard.WAGON_FIRST),
            x -> x.siding(-1, true), x -> x.fetch(3, 0), x -> x.draw(Yard.TOO_HEAVY), x -> x.draw(Yard.BROKEN)
        };
        TankSidings x = Yard.narrow();
        for (int r = 1; r <= 7; r++) {
            for (int n = 2; n <= 10 + r; n++) {
                DUE.is("the teller of " + r, -10 - r, tellers[r - 1].on(x));
                DUE.is("told " + n + " times", n, x.reasons(r));
            }
        }
        for (int r = 1; r <= 7; r++) {
            DUE.is("reasons(" + r + ")", 10 + r, x.reasons(r));
        }
    }
}
