import java.util.function.Supplier;

/** The boundary cases of promises 15 to 23, a method for each sentence. */
public final class SidingPlanBoundsTest {
    private static final Due DUE = new Due("SidingPlanBoundsTest");
    private static final Unchanged UNCHANGED = new Unchanged(DUE);
    private static final String TRACKS = Yard.seen(Yard.bare()).replaceFirst("no plan; no siding$", "");
    private static final String PLAN = "plan (1 2 3) (4 5 6)";
    private static final String SIDING = "siding of 3, 3 80 3 (6 0), empty, 3 90 0 none";

    public static void main(String[] args) {
        sidingHasZeroToTwelvePlaces();
        sidingIsOutsideAboveTwelve();
        sidingStaysAtSize();
        sidingIsNewAndEmpty();
        sidingIsForTanksAloneOrNot();
        roomTellsHowMany();
        roomTellsNothing();

        stowTakesTheFirstAndTheLastPlace();
        stowAnswersWhatIsLeft();
        stowedOverIsNoMore();
        stowRefusesOtherTracks();
        stowTellsKind();
        stowTellsNoSiding();
        stowTellsPlace();
        stowTellsNarrow();
        stowOfNoneEmptiesThePlace();
        stowOfNoneLeavesTheRest();

        fetchTakesTheFirstAndTheLastPlace();
        fetchedWagonIsTheFront();
        fetchLeavesThePlaceEmpty();
        fetchRefusesOtherTracks();
        fetchTellsNoSiding();
        fetchTellsPlace();
        fetchTellsAnEmptyPlace();

        planHasZeroToTwelveEach();
        planIsOutsideAboveTwelve();
        planStaysAtSize();
        planIsNewAndZero();
        noteTakesZeroToNinetyNine();
        noteTellsNothing();
        noteTellsPlace();
        noteChangesNoOtherNumber();
        notedTellsNothing();
        notedTellsPlace();
        wideTellsHowMany();
        wideTellsNothing();
        wideTellsPlace();

        awayTellsWhetherThereWasASiding();
        awayTellsWhetherThereWasAPlan();
        awayRefusesOtherNumbers();
        DUE.end();
    }

    private static void sidingHasZeroToTwelvePlaces() {
        DUE.by("15 siding: n places (12 at most)");
        for (int n : new int[] {0, 1, 11, 12}) {
            TankSidings x = Yard.bare();
            DUE.is("siding(" + n + ", false)", n, x.siding(n, false));
            DUE.is("room()", n, x.room());
            for (int place = 0; place < n; place++) {
                DUE.is("place " + place + " is empty", Due.NOTHING, x.fetch(place, 0));
            }
            DUE.is("none behind the last", Due.PLACE, x.fetch(n, 0));
            DUE.is("none behind the last to stow in", Due.PLACE, x.stow(n, Yard.WAGON_FIRST));
            DUE.is("it is one", 1, x.away(0));
        }
    }

    private static void sidingIsOutsideAboveTwelve() {
        DUE.by("15 siding, OUTSIDE: above 12");
        for (int n : Edge.above(12)) {
            UNCHANGED.outside("siding(" + n + ", false)", x -> x.siding(n, false));
            UNCHANGED.outside("siding(" + n + ", true)", x -> x.siding(n, true));
        }
    }

    private static void sidingStaysAtSize() {
        DUE.by("15 siding, SIZE: it stays as it is");
        for (int n : Edge.below(0)) {
            UNCHANGED.answers("none stays none, " + n, Due.SIZE, Yard::bare, x -> x.siding(n, true));
            UNCHANGED.answers("tanks alone, " + n, Due.SIZE, Yard::narrow, x -> x.siding(n, false));
            UNCHANGED.answers("all wagons, " + n, Due.SIZE, Yard::open, x -> x.siding(n, true));
        }
    }

    private static void sidingIsNewAndEmpty() {
        DUE.by("15 siding: a new one, all empty");
        TankSidings x = Yard.narrow();
        DUE.is("siding(3, true)", 3, x.siding(3, true));
        DUE.same("what was there is no more", TRACKS + PLAN + "; siding of 3, empty, empty, empty, for tanks",
            Yard.seen(x));
        TankSidings y = Yard.open();
        DUE.is("siding(0, false)", 0, y.siding(0, false));
        DUE.is("siding(3, false)", 3, y.siding(3, false));
        DUE.same("what was there does not come back", TRACKS + PLAN + "; siding of 3, empty, empty, empty, for all",
            Yard.seen(y));
    }

    private static void sidingIsForTanksAloneOrNot() {
        DUE.by("15 siding: for TANKS alone or not");
        TankSidings x = Yard.open();
        x.siding(1, true);
        DUE.is("a WAGON, TANKS alone", Due.NARROW, x.stow(0, Yard.WAGON_FIRST));
        x.siding(1, false);
        DUE.is("a WAGON, all", 1, x.stow(0, Yard.WAGON_FIRST));
        DUE.is("a TANK, all", 0, x.stow(0, Yard.WAGON_FIRST));
        x.siding(1, true);
        DUE.is("a TANK, TANKS alone", 0, x.stow(0, Yard.TANK_FIRST));
    }

    private static void roomTellsHowMany() {
        DUE.by("16 room: how many places");
        UNCHANGED.answers("full and empty ones", 3, Yard::narrow, x -> x.room());
        UNCHANGED.answers("0 places", 0, withSiding(0, true), x -> x.room());
        UNCHANGED.answers("12 places", 12, withSiding(12, false), x -> x.room());
    }

    private static Supplier<TankSidings> withSiding(int n, boolean tanks) {
        return () -> {
            TankSidings x = Yard.bare();
            x.siding(n, tanks);
            return x;
        };
    }

    private static void roomTellsNothing() {
        DUE.by("16 room: NOTHING");
        UNCHANGED.answers("none at first", Due.NOTHING, Yard::bare, x -> x.room());
        UNCHANGED.answers("none any more", Due.NOTHING, awayFrom(0), x -> x.room());
    }

    private static Supplier<TankSidings> awayFrom(int what) {
        return () -> {
            TankSidings x = Yard.narrow();
            x.away(what);
            return x;
        };
    }

    private static void stowTakesTheFirstAndTheLastPlace() {
        DUE.by("17 stow: into a place of THE SIDING");
        for (int place : new int[] {0, 11}) {
            TankSidings x = withSiding(12, false).get();
            DUE.is("stow(" + place + ", 0)", 1, x.stow(place, Yard.WAGON_FIRST));
            for (int other = 0; other < 12; other++) {
                int due = other == place ? 1 : Due.NOTHING;
                DUE.is("place " + other, due, x.fetch(other, Yard.EMPTY));
            }
            DUE.same("the same WAGON", "track 5 has 1, 2 50 0 none", Yard.seenOnTrack(x, Yard.EMPTY));
        }
    }

    private static void stowAnswersWhatIsLeft() {
        DUE.by("17 stow: how many VEHICLES the TRACK has left");
        TankSidings x = Yard.open();
        DUE.is("one left", 1, x.stow(1, Yard.WAGON_FIRST));
        DUE.same("the next is the FRONT", "track 1 has 1, 3 60 0 none", Yard.seenOnTrack(x, Yard.WAGON_FIRST));
        DUE.is("none left", 0, x.stow(0, Yard.WAGON_FIRST));
        DUE.same("empty", "track 1 has 0", Yard.seenOnTrack(x, Yard.WAGON_FIRST));
        DUE.same("in their places", "siding of 3, 3 60 0 none, 2 50 0 none, 3 90 0 none, for all",
            Yard.seenSiding(x));
    }

    private static void stowedOverIsNoMore() {
        DUE.by("17 stow: what was there is no more");
        TankSidings x = Yard.narrow();
        DUE.is("stow(0, 2)", 0, x.stow(0, Yard.TANK_FIRST));
        String left = TRACKS.replace("track 2 has 1, 3 70 50 (0 5)", "track 2 has 0");
        DUE.same("one in place of another", left + PLAN
            + "; siding of 3, 3 70 50 (0 5), empty, 3 90 0 none, for tanks", Yard.seen(x));
    }

    private static void stowRefusesOtherTracks() {
        DUE.by("17 stow, OUTSIDE: the TRACK");
        for (int track : Edge.outside(0, 5)) {
            UNCHANGED.outside("stow(0, " + track + ")", x -> x.stow(0, track));
            UNCHANGED.outside("stow(1, " + track + ")", x -> x.stow(1, track));
            UNCHANGED.outside("stow(-1, " + track + ")", x -> x.stow(-1, track));
        }
        for (int track = 0; track <= 5; track++) {
            TankSidings x = new TankSidings();
            x.siding(1, true);
            x.place(track, Due.TANK, 5);
            DUE.is("stow(0, " + track + ")", 0, x.stow(0, track));
        }
    }

    private static void stowTellsKind() {
        DUE.by("17 stow, KIND: an ENGINE, ahead of all other reasons");
        for (int place : new int[] {0, 1, 2, 3, -1, Integer.MAX_VALUE, Integer.MIN_VALUE}) {
            UNCHANGED.answers("no SIDING, " + place, Due.KIND, Yard::bare, x -> x.stow(place, Yard.TRAIN));
            UNCHANGED.answers("TANKS alone, " + place, Due.KIND, Yard::narrow, x -> x.stow(place, Yard.TRAIN));
            UNCHANGED.answers("all WAGONS, " + place, Due.KIND, Yard::open, x -> x.stow(place, Yard.TRAIN));
        }
    }

    private static void stowTellsNoSiding() {
        DUE.by("17 stow, NOTHING: no SIDING, ahead of PLACE");
        for (int track : new int[] {Yard.WAGON_FIRST, Yard.TANK_FIRST, Yard.EMPTY}) {
            for (int place : new int[] {0, -1, Integer.MAX_VALUE}) {
                UNCHANGED.answers("at first", Due.NOTHING, Yard::bare, x -> x.stow(place, track));
                UNCHANGED.answers("any more", Due.NOTHING, awayFrom(0), x -> x.stow(place, track));
            }
        }
    }

    private static void stowTellsPlace() {
        DUE.by("17 stow: PLACE, ahead of NARROW and of NOTHING");
        for (int track : new int[] {Yard.WAGON_FIRST, Yard.TANK_FIRST, Yard.EMPTY}) {
            for (int place : Edge.outside(0, 2)) {
                String what = "stow(" + place + ", " + track + ")";
                UNCHANGED.answers("TANKS alone, " + what, Due.PLACE, Yard::narrow, x -> x.stow(place, track));
                UNCHANGED.answers("all WAGONS, " + what, Due.PLACE, Yard::open, x -> x.stow(place, track));
            }
            UNCHANGED.answers("of 0 places", Due.PLACE, withSiding(0, true), x -> x.stow(0, track));
            UNCHANGED.answers("of 12 places", Due.PLACE, withSiding(12, false), x -> x.stow(12, track));
        }
    }

    private static void stowTellsNarrow() {
        DUE.by("17 stow, NARROW: a WAGON that is no TANK, for a SIDING of TANKS alone");
        for (int place = 0; place <= 2; place++) {
            int asked = place;
            UNCHANGED.answers("place " + place, Due.NARROW, Yard::narrow, x -> x.stow(asked, Yard.WAGON_FIRST));
            DUE.is("a TANK in place " + place, 0, Yard.narrow().stow(place, Yard.TANK_FIRST));
            DUE.is("a WAGON among all, place " + place, 1, Yard.open().stow(place, Yard.WAGON_FIRST));
        }
    }

    private static void stowOfNoneEmptiesThePlace() {
        DUE.by("17 stow, NOTHING: the TRACK has none (the place is empty then, all the same)");
        String[] due = {
            "siding of 3, empty, empty, 3 90 0 none", SIDING, "siding of 3, 3 80 3 (6 0), empty, empty"
        };
        for (int place = 0; place <= 2; place++) {
            TankSidings narrow = Yard.narrow();
            DUE.is("TANKS alone, place " + place, Due.NOTHING, narrow.stow(place, Yard.EMPTY));
            DUE.same("TANKS alone", TRACKS + PLAN + "; " + due[place] + ", for tanks", Yard.seen(narrow));
            TankSidings open = Yard.open();
            DUE.is("all WAGONS, place " + place, Due.NOTHING, open.stow(place, Yard.EMPTY));
            DUE.same("all WAGONS", TRACKS + PLAN + "; " + due[place] + ", for all", Yard.seen(open));
        }
    }

    private static void stowOfNoneLeavesTheRest() {
        DUE.by("17 stow, NOTHING: nothing else has changed");
        UNCHANGED.answers("an empty place", Due.NOTHING, Yard::narrow, x -> x.stow(1, Yard.EMPTY));
        TankSidings x = Yard.narrow();
        x.stow(0, Yard.EMPTY);
        x.stow(0, Yard.EMPTY);
        DUE.is("told twice more", 3, x.reasons(1));
        DUE.is("level()", 50, x.level());
        DUE.is("room()", 3, x.room());
        DUE.is("count(5)", 0, x.count(Yard.EMPTY));
    }

    private static void fetchTakesTheFirstAndTheLastPlace() {
        DUE.by("18 fetch: the WAGON in a place");
        TankSidings x = Yard.narrow();
        DUE.is("the last", 1, x.fetch(2, Yard.EMPTY));
        DUE.is("the first", 2, x.fetch(0, Yard.EMPTY));
        DUE.same("as they were", "track 5 has 2, 3 80 3 (6 0), 3 90 0 none", Yard.seenOnTrack(x, Yard.EMPTY));
    }

    private static void fetchedWagonIsTheFront() {
        DUE.by("18 fetch: is the FRONT of a TRACK: how many that has");
        TankSidings x = Yard.open();
        DUE.is("on a TRACK that has some", 3, x.fetch(0, Yard.WAGON_FIRST));
        DUE.same("ahead of them", "track 1 has 3, 3 80 3 (6 0), 2 50 0 none, 3 60 0 none",
            Yard.seenOnTrack(x, Yard.WAGON_FIRST));
        DUE.is("its crate", 9, x.load(Yard.WAGON_FIRST, 0, 1, 9));
        DUE.is("its LOAD", 95, x.take(Yard.WAGON_FIRST));
    }

    private static void fetchLeavesThePlaceEmpty() {
        DUE.by("18 fetch: it is in its place no longer");
        TankSidings x = Yard.narrow();
        x.fetch(0, Yard.EMPTY);
        DUE.is("again", Due.NOTHING, x.fetch(0, Yard.EMPTY));
        DUE.is("room()", 3, x.room());
        DUE.same("the rest", "siding of 3, empty, empty, 3 90 0 none, for tanks", Yard.seenSiding(x));
    }

    private static void fetchRefusesOtherTracks() {
        DUE.by("18 fetch, OUTSIDE: the TRACK");
        for (int track : Edge.outside(0, 5)) {
            UNCHANGED.outside("fetch(0, " + track + ")", x -> x.fetch(0, track));
            UNCHANGED.outside("fetch(1, " + track + ")", x -> x.fetch(1, track));
            UNCHANGED.outside("fetch(-1, " + track + ")", x -> x.fetch(-1, track));
        }
        int[] due = {5, 3, 2, 3, 4, 1};
        for (int track = 0; track <= 5; track++) {
            DUE.is("fetch(0, " + track + ")", due[track], Yard.narrow().fetch(0, track));
        }
    }

    private static void fetchTellsNoSiding() {
        DUE.by("18 fetch, NOTHING: no SIDING, ahead of PLACE");
        for (int place : new int[] {0, 1, -1, Integer.MAX_VALUE, Integer.MIN_VALUE}) {
            UNCHANGED.answers("at first, " + place, Due.NOTHING, Yard::bare, x -> x.fetch(place, 0));
            UNCHANGED.answers("any more, " + place, Due.NOTHING, awayFrom(0), x -> x.fetch(place, 0));
        }
    }

    private static void fetchTellsPlace() {
        DUE.by("18 fetch: PLACE");
        for (int place : Edge.outside(0, 2)) {
            UNCHANGED.answers("place " + place, Due.PLACE, Yard::narrow, x -> x.fetch(place, 0));
            UNCHANGED.answers("to an empty TRACK, " + place, Due.PLACE, Yard::open, x -> x.fetch(place, Yard.EMPTY));
        }
        UNCHANGED.answers("of 0 places", Due.PLACE, withSiding(0, false), x -> x.fetch(0, 0));
        UNCHANGED.answers("of 12 places", Due.PLACE, withSiding(12, true), x -> x.fetch(12, 0));
    }

    private static void fetchTellsAnEmptyPlace() {
        DUE.by("18 fetch, NOTHING: the place is empty");
        UNCHANGED.answers("place 1", Due.NOTHING, Yard::narrow, x -> x.fetch(1, 0));
        UNCHANGED.answers("place 1 of all", Due.NOTHING, Yard::open, x -> x.fetch(1, Yard.EMPTY));
        UNCHANGED.answers("the last of 12", Due.NOTHING, withSiding(12, true), x -> x.fetch(11, 0));
    }

    private static void planHasZeroToTwelveEach() {
        DUE.by("19 plan: n rows of m numbers (12 at most each): n times m");
        for (int n : new int[] {0, 1, 11, 12}) {
            for (int m : new int[] {0, 1, 11, 12}) {
                TankSidings x = new TankSidings();
                DUE.is("plan(" + n + ", " + m + ")", n * m, x.plan(n, m));
                DUE.is("the last row", n == 0 ? Due.PLACE : m, x.wide(n - 1));
                DUE.is("no row behind it", Due.PLACE, x.wide(n));
                DUE.is("the last number", n * m == 0 ? Due.PLACE : 0, x.noted(n - 1, m - 1));
                DUE.is("none behind it", Due.PLACE, x.noted(n - 1, m));
                DUE.is("it is one", 1, x.away(1));
            }
        }
    }

    private static void planIsOutsideAboveTwelve() {
        DUE.by("19 plan, OUTSIDE: one is above 12, ahead of SIZE");
        for (int high : Edge.above(12)) {
            for (int other : new int[] {0, 1, 12, 13, -1, Integer.MIN_VALUE, Integer.MAX_VALUE}) {
                UNCHANGED.outside("plan(" + high + ", " + other + ")", x -> x.plan(high, other));
                UNCHANGED.outside("plan(" + other + ", " + high + ")", x -> x.plan(other, high));
            }
        }
    }

    private static void planStaysAtSize() {
        DUE.by("19 plan, SIZE: one is below 0 (it stays as it is)");
        for (int low : Edge.below(0)) {
            for (int other : new int[] {0, 1, 12, -1, Integer.MIN_VALUE}) {
                String what = low + " beside " + other;
                UNCHANGED.answers("none stays none, rows " + what, Due.SIZE, Yard::bare, x -> x.plan(low, other));
                UNCHANGED.answers("none stays none, numbers " + what, Due.SIZE, Yard::bare, x -> x.plan(other, low));
                UNCHANGED.answers("rows " + what, Due.SIZE, Yard::narrow, x -> x.plan(low, other));
                UNCHANGED.answers("numbers " + what, Due.SIZE, Yard::narrow, x -> x.plan(other, low));
            }
        }
    }

    private static void planIsNewAndZero() {
        DUE.by("19 plan: a new one, all 0 at first");
        TankSidings x = Yard.narrow();
        x.plan(2, 3);
        DUE.same("the same size", "plan (0 0 0) (0 0 0)", Yard.seenPlan(x));
        x.note(1, 2, 9);
        x.plan(3, 2);
        DUE.same("turned", "plan (0 0) (0 0) (0 0)", Yard.seenPlan(x));
        x.note(0, 0, 9);
        x.plan(0, 0);
        DUE.same("no rows", "plan", Yard.seenPlan(x));
        x.plan(1, 1);
        DUE.same("what was there does not come back", "plan (0)", Yard.seenPlan(x));
        DUE.same("the siding stays", SIDING + ", for tanks", Yard.seenSiding(x));
    }

    private static void noteTakesZeroToNinetyNine() {
        DUE.by("20 note: becomes 0 to 99: that; OUTSIDE: the number");
        TankSidings x = Yard.narrow();
        for (int v : new int[] {0, 1, 98, 99, 0}) {
            DUE.is("note(1, 2, " + v + ")", v, x.note(1, 2, v));
            DUE.is("noted(1, 2)", v, x.noted(1, 2));
        }
        for (int v : Edge.outside(0, 99)) {
            UNCHANGED.outside("note(0, 0, " + v + ")", y -> y.note(0, 0, v));
            UNCHANGED.outside("ahead of PLACE, " + v, y -> y.note(2, 3, v));
        }
    }

    private static void noteTellsNothing() {
        DUE.by("20 note: NOTHING, ahead of PLACE");
        for (int at : new int[] {0, 1, -1, Integer.MAX_VALUE, Integer.MIN_VALUE}) {
            UNCHANGED.answers("at first, " + at, Due.NOTHING, Yard::bare, x -> x.note(at, at, 1));
            UNCHANGED.answers("any more, " + at, Due.NOTHING, awayFrom(1), x -> x.note(at, at, 1));
        }
    }

    private static void noteTellsPlace() {
        DUE.by("20 note: PLACE");
        for (int i : Edge.outside(0, 1)) {
            UNCHANGED.answers("row " + i, Due.PLACE, Yard::narrow, x -> x.note(i, 0, 50));
            UNCHANGED.answers("row " + i + ", no number", Due.PLACE, Yard::narrow, x -> x.note(i, 3, 50));
        }
        for (int j : Edge.outside(0, 2)) {
            UNCHANGED.answers("number " + j, Due.PLACE, Yard::narrow, x -> x.note(0, j, 50));
            UNCHANGED.answers("number " + j + " of the last row", Due.PLACE, Yard::narrow, x -> x.note(1, j, 50));
        }
        for (int j = 3; j <= 6; j++) {
            int behind = j;
            UNCHANGED.answers("a row's end is no way into the next one, " + j, Due.PLACE, Yard::narrow,
                x -> x.note(0, behind, 50));
            UNCHANGED.answers("nor its begin into the last one, " + -j, Due.PLACE, Yard::narrow,
                x -> x.note(1, 2 - behind, 50));
        }
        UNCHANGED.answers("rows of 0 numbers", Due.PLACE, withPlan(3, 0), x -> x.note(0, 0, 50));
        UNCHANGED.answers("0 rows", Due.PLACE, withPlan(0, 3), x -> x.note(0, 0, 50));
    }

    private static Supplier<TankSidings> withPlan(int n, int m) {
        return () -> {
            TankSidings x = Yard.narrow();
            x.plan(n, m);
            return x;
        };
    }

    private static void noteChangesNoOtherNumber() {
        DUE.by("20 note: number j of row i");
        TankSidings first = Yard.narrow();
        first.note(0, 0, 50);
        DUE.same("the first", "plan (50 2 3) (4 5 6)", Yard.seenPlan(first));
        TankSidings endOfRow = Yard.narrow();
        endOfRow.note(0, 2, 50);
        DUE.same("the end of a row", "plan (1 2 50) (4 5 6)", Yard.seenPlan(endOfRow));
        TankSidings nextRow = Yard.narrow();
        nextRow.note(1, 0, 50);
        DUE.same("the begin of a row", "plan (1 2 3) (50 5 6)", Yard.seenPlan(nextRow));
        TankSidings last = Yard.narrow();
        last.note(1, 2, 50);
        DUE.same("the last", "plan (1 2 3) (4 5 50)", Yard.seenPlan(last));
    }

    private static void notedTellsNothing() {
        DUE.by("21 noted: NOTHING, ahead of PLACE");
        for (int at : new int[] {0, 1, -1, Integer.MAX_VALUE, Integer.MIN_VALUE}) {
            UNCHANGED.answers("at first, " + at, Due.NOTHING, Yard::bare, x -> x.noted(at, at));
            UNCHANGED.answers("any more, " + at, Due.NOTHING, awayFrom(1), x -> x.noted(at, at));
        }
    }

    private static void notedTellsPlace() {
        DUE.by("21 noted: PLACE");
        for (int at = 0; at < 6; at++) {
            int asked = at;
            UNCHANGED.answers("number " + at, at + 1, Yard::narrow, x -> x.noted(asked / 3, asked % 3));
        }
        for (int i : Edge.outside(0, 1)) {
            UNCHANGED.answers("row " + i, Due.PLACE, Yard::narrow, x -> x.noted(i, 0));
            UNCHANGED.answers("row " + i + ", no number", Due.PLACE, Yard::narrow, x -> x.noted(i, i));
        }
        for (int j : Edge.outside(0, 2)) {
            UNCHANGED.answers("number " + j, Due.PLACE, Yard::narrow, x -> x.noted(0, j));
            UNCHANGED.answers("number " + j + " of the last row", Due.PLACE, Yard::narrow, x -> x.noted(1, j));
        }
        UNCHANGED.answers("rows of 0 numbers", Due.PLACE, withPlan(3, 0), x -> x.noted(2, 0));
        UNCHANGED.answers("0 rows", Due.PLACE, withPlan(0, 3), x -> x.noted(0, 0));
    }

    private static void wideTellsHowMany() {
        DUE.by("22 wide: how many numbers row i has");
        UNCHANGED.answers("the first row", 3, Yard::narrow, x -> x.wide(0));
        UNCHANGED.answers("the last row", 3, Yard::narrow, x -> x.wide(1));
        UNCHANGED.answers("0 numbers", 0, withPlan(12, 0), x -> x.wide(11));
        UNCHANGED.answers("12 numbers", 12, withPlan(12, 12), x -> x.wide(11));
    }

    private static void wideTellsNothing() {
        DUE.by("22 wide: NOTHING, ahead of PLACE");
        for (int i : new int[] {0, 1, -1, Integer.MAX_VALUE, Integer.MIN_VALUE}) {
            UNCHANGED.answers("at first, " + i, Due.NOTHING, Yard::bare, x -> x.wide(i));
            UNCHANGED.answers("any more, " + i, Due.NOTHING, awayFrom(1), x -> x.wide(i));
        }
    }

    private static void wideTellsPlace() {
        DUE.by("22 wide: PLACE");
        for (int i : Edge.outside(0, 1)) {
            UNCHANGED.answers("row " + i, Due.PLACE, Yard::narrow, x -> x.wide(i));
        }
        UNCHANGED.answers("0 rows", Due.PLACE, withPlan(0, 12), x -> x.wide(0));
        UNCHANGED.answers("12 rows", Due.PLACE, withPlan(12, 0), x -> x.wide(12));
    }

    private static void awayTellsWhetherThereWasASiding() {
        DUE.by("23 away, 0 THE SIDING: there is none any more: whether there was one (1, 0)");
        TankSidings x = Yard.narrow();
        DUE.is("there was one", 1, x.away(0));
        DUE.is("there was none", 0, x.away(0));
        DUE.same("the rest stays", TRACKS + PLAN + "; no siding", Yard.seen(x));
        UNCHANGED.answers("none at first", 0, Yard::bare, y -> y.away(0));
        DUE.is("one of 0 places is one", 1, withSiding(0, false).get().away(0));
        TankSidings again = awayFrom(0).get();
        again.siding(3, true);
        DUE.same("what was in it is no more", "siding of 3, empty, empty, empty, for tanks", Yard.seenSiding(again));
    }

    private static void awayTellsWhetherThereWasAPlan() {
        DUE.by("23 away, 1 THE PLAN: there is none any more: whether there was one (1, 0)");
        TankSidings x = Yard.open();
        DUE.is("there was one", 1, x.away(1));
        DUE.is("there was none", 0, x.away(1));
        DUE.same("the rest stays", TRACKS + "no plan; " + SIDING + ", for all", Yard.seen(x));
        UNCHANGED.answers("none at first", 0, Yard::bare, y -> y.away(1));
        DUE.is("one of 0 rows is one", 1, withPlan(0, 0).get().away(1));
        TankSidings again = awayFrom(1).get();
        again.plan(2, 3);
        DUE.same("what was in it is no more", "plan (0 0 0) (0 0 0)", Yard.seenPlan(again));
    }

    private static void awayRefusesOtherNumbers() {
        DUE.by("23 away: OUTSIDE");
        for (int what : Edge.outside(0, 1)) {
            UNCHANGED.outside("away(" + what + ")", x -> x.away(what));
        }
    }
}
