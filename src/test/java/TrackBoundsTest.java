/** The boundary cases of promises 1 to 5, 24 and 25, a method for each sentence. */
public final class TrackBoundsTest {
    private static final Due DUE = new Due("TrackBoundsTest");
    private static final Unchanged UNCHANGED = new Unchanged(DUE);
    private static final int FIRST_TRACK = 0;
    private static final int LAST_TRACK = 5;

    public static void main(String[] args) {
        newTracksAreEmpty();
        newYardHasNoSiding();
        newYardHasNoPlan();
        newYardHasToldNothing();
        yardsShareNothing();

        placeTakesEveryTrack();
        placeTakesSortsOneToThree();
        placeTakesWeightsOneToThousand();
        placedVehicleIsTheFront();
        placedVehicleHasNoCratesAndNoDefect();

        takeAnswersTheWholeLoad();
        takenVehicleIsNoMore();
        takeTellsNothing();
        takeTakesEveryTrack();

        shuntMovesOneToNinetyNine();
        shuntMovesThemAllOntoAnEmptyTrack();
        shuntKeepsThemAsTheyStand();
        shuntRefusesTheSameTrack();
        shuntTellsNothingWhereThereAreFewer();
        shuntTakesEveryPairOfTracks();

        coupleLeavesTheOtherTrackEmpty();
        coupleTakesAnOtherTrackThatIsEmpty();
        coupleKeepsThemAsTheyStand();
        coupleRefusesTheSameTrack();
        coupleTellsNothingWhereTheTrackHasNone();
        coupleTakesEveryPairOfTracks();

        aboutTellsWhatIsThere();
        aboutAnswersZeroWhereThereIsNone();
        aboutRefusesOtherNumbers();
        countTellsEmptyAndFull();
        countRefusesOtherTracks();
        DUE.end();
    }

    private static void newTracksAreEmpty() {
        DUE.by("1 a new object: empty TRACKS");
        TankSidings x = new TankSidings();
        for (int track = FIRST_TRACK; track <= LAST_TRACK; track++) {
            DUE.same("track " + track, "track " + track + " has 0", Yard.seenOnTrack(x, track));
            DUE.is("take(" + track + ")", Due.NOTHING, x.take(track));
        }
    }

    private static void newYardHasNoSiding() {
        DUE.by("1 a new object: no SIDING");
        UNCHANGED.answers("room()", Due.NOTHING, TankSidings::new, x -> x.room());
        UNCHANGED.answers("stow(0, 0)", Due.NOTHING, TankSidings::new, x -> x.stow(0, 0));
        UNCHANGED.answers("fetch(0, 0)", Due.NOTHING, TankSidings::new, x -> x.fetch(0, 0));
        DUE.is("away(0)", 0, new TankSidings().away(0));
    }

    private static void newYardHasNoPlan() {
        DUE.by("1 a new object: no PLAN");
        UNCHANGED.answers("note(0, 0, 1)", Due.NOTHING, TankSidings::new, x -> x.note(0, 0, 1));
        UNCHANGED.answers("noted(0, 0)", Due.NOTHING, TankSidings::new, x -> x.noted(0, 0));
        UNCHANGED.answers("wide(0)", Due.NOTHING, TankSidings::new, x -> x.wide(0));
        DUE.is("away(1)", 0, new TankSidings().away(1));
    }

    private static void newYardHasToldNothing() {
        DUE.by("14 level, 26 reasons: neither was, none was told");
        TankSidings x = new TankSidings();
        DUE.is("level()", 0, x.level());
        for (int r = 1; r <= 7; r++) {
            DUE.is("reasons(" + r + ")", 0, x.reasons(r));
        }
    }

    private static void yardsShareNothing() {
        DUE.by("1 a new object, beside one that is in use");
        TankSidings untouched = new TankSidings();
        TankSidings busy = Yard.narrow();
        busy.draw(Yard.TOO_HEAVY);
        DUE.is("level()", 0, untouched.level());
        DUE.is("reasons(6)", 0, untouched.reasons(6));
        DUE.same("what is seen", Yard.seen(new TankSidings()), Yard.seen(untouched));
    }

    private static void placeTakesEveryTrack() {
        DUE.by("2 place, TRACKS 0 to 5");
        for (int track = FIRST_TRACK; track <= LAST_TRACK; track++) {
            TankSidings x = new TankSidings();
            DUE.is("place(" + track + ", ..)", 1, x.place(track, Due.WAGON, 5));
            for (int other = FIRST_TRACK; other <= LAST_TRACK; other++) {
                DUE.is("count(" + other + ")", other == track ? 1 : 0, x.count(other));
            }
        }
        for (int track : Edge.outside(FIRST_TRACK, LAST_TRACK)) {
            UNCHANGED.outside("place(" + track + ", 2, 5)", x -> x.place(track, Due.WAGON, 5));
        }
    }

    private static void placeTakesSortsOneToThree() {
        DUE.by("2 place, a sort: 1 ENGINE, 2 WAGON, 3 TANK");
        TankSidings x = new TankSidings();
        for (int sort = 1; sort <= 3; sort++) {
            DUE.is("place(0, " + sort + ", 5)", sort, x.place(0, sort, 5));
            DUE.is("its sort", sort, x.about(0, 0, 0));
        }
        DUE.is("a TANK is a WAGON", 1, x.crates(0, 0, 1));
        DUE.is("a WAGON is one", 1, x.crates(0, 1, 1));
        DUE.is("an ENGINE is none", Due.KIND, x.crates(0, 2, 1));
        for (int sort : Edge.outside(1, 3)) {
            UNCHANGED.outside("place(0, " + sort + ", 5)", y -> y.place(0, sort, 5));
        }
    }

    private static void placeTakesWeightsOneToThousand() {
        DUE.by("2 place, a WEIGHT 1 to 1000");
        TankSidings x = new TankSidings();
        int count = 0;
        for (int weight : new int[] {1, 2, 127, 128, 255, 256, 257, 999, 1000}) {
            count++;
            DUE.is("place(0, 2, " + weight + ")", count, x.place(0, Due.WAGON, weight));
            DUE.is("its WEIGHT", weight, x.about(0, 0, 1));
            DUE.is("its LOAD", weight, x.weigh(0, 0));
        }
        for (int weight : Edge.outside(1, 1000)) {
            UNCHANGED.outside("place(0, 2, " + weight + ")", y -> y.place(0, Due.WAGON, weight));
        }
    }

    private static void placedVehicleIsTheFront() {
        DUE.by("2 place, the FRONT of a TRACK: how many it has");
        TankSidings x = Yard.bare();
        DUE.is("place on a full track", 5, x.place(Yard.TRAIN, Due.TANK, 77));
        DUE.same("that track", "track 0 has 5, 3 77 0 none, 1 100 0 engine, 2 30 0 (7 0 99), 3 40 49 none, 2 20 0 ()",
            Yard.seenOnTrack(x, Yard.TRAIN));
        DUE.is("place on an empty track", 1, x.place(Yard.EMPTY, Due.ENGINE, 66));
        DUE.same("that track", "track 5 has 1, 1 66 0 engine", Yard.seenOnTrack(x, Yard.EMPTY));
    }

    private static void placedVehicleHasNoCratesAndNoDefect() {
        DUE.by("Terms: perhaps a DEFECT; CRATES or none (at first)");
        TankSidings x = Yard.bare();
        x.take(Yard.TANK_FIRST);
        x.place(Yard.TANK_FIRST, Due.TANK, 70);
        DUE.same("placed where one was taken", "3 70 0 none", Yard.seenVehicle(x, Yard.TANK_FIRST, 0));
        DUE.is("report", Due.NOTHING, x.report(Yard.TANK_FIRST, 0));
        DUE.is("length", Due.NOTHING, x.length(Yard.TANK_FIRST, 0));
    }

    private static void takeAnswersTheWholeLoad() {
        DUE.by("3 take: its LOAD");
        TankSidings x = new TankSidings();
        x.place(0, Due.ENGINE, 1);
        DUE.is("the smallest LOAD", 1, x.take(0));
        x.place(0, Due.WAGON, 1000);
        x.crates(0, 0, 12);
        for (int i = 0; i < 12; i++) {
            x.load(0, 0, i, 99);
        }
        DUE.is("the largest LOAD", 2188, x.take(0));
        x.place(0, Due.TANK, 6);
        x.crates(0, 0, 0);
        DUE.is("with 0 CRATES", 6, x.take(0));
    }

    private static void takenVehicleIsNoMore() {
        DUE.by("3 take: the FRONT goes, and is no more");
        TankSidings x = Yard.bare();
        String others = Yard.seen(Yard.bare());
        x.take(Yard.WAGON_FIRST);
        DUE.same("the next is the FRONT", "track 1 has 1, 3 60 0 none", Yard.seenOnTrack(x, Yard.WAGON_FIRST));
        x.take(Yard.WAGON_FIRST);
        DUE.same("the last is gone", "track 1 has 0", Yard.seenOnTrack(x, Yard.WAGON_FIRST));
        String due = others.replace("track 1 has 2, 2 50 0 none, 3 60 0 none", "track 1 has 0");
        DUE.same("the others stay", due, Yard.seen(x));
    }

    private static void takeTellsNothing() {
        DUE.by("3 take: NOTHING");
        UNCHANGED.answers("take(5)", Due.NOTHING, Yard::narrow, x -> x.take(Yard.EMPTY));
        UNCHANGED.answers("take(0)", Due.NOTHING, TankSidings::new, x -> x.take(0));
    }

    private static void takeTakesEveryTrack() {
        DUE.by("3 take: OUTSIDE");
        for (int track = FIRST_TRACK; track <= LAST_TRACK; track++) {
            TankSidings x = new TankSidings();
            x.place(track, Due.WAGON, 10 + track);
            DUE.is("take(" + track + ")", 10 + track, x.take(track));
        }
        for (int track : Edge.outside(FIRST_TRACK, LAST_TRACK)) {
            UNCHANGED.outside("take(" + track + ")", x -> x.take(track));
        }
    }

    /** A track of that many wagons, whose weights count down to 1 from its front. */
    private static TankSidings rowOf(int vehicles) {
        TankSidings x = new TankSidings();
        for (int weight = 1; weight <= vehicles; weight++) {
            x.place(0, Due.WAGON, weight);
        }
        return x;
    }

    private static void shuntMovesOneToNinetyNine() {
        DUE.by("4 shunt: the first n VEHICLES (1 to 99)");
        for (int n : new int[] {1, 2, 98, 99}) {
            TankSidings x = rowOf(100);
            DUE.is("shunt(0, " + n + ", 1)", n, x.shunt(0, n, 1));
            DUE.is("left", 100 - n, x.count(0));
            DUE.is("moved", n, x.count(1));
            DUE.is("the FRONT that is left", 100 - n, x.about(0, 0, 1));
            DUE.is("the first moved", 100, x.about(1, 0, 1));
            DUE.is("the last moved", 101 - n, x.about(1, n - 1, 1));
            DUE.is("none behind it", 0, x.about(1, n, 0));
        }
        for (int n : Edge.outside(1, 99)) {
            UNCHANGED.outside("shunt(0, " + n + ", 1)", y -> y.shunt(0, n, 1));
            TankSidings x = rowOf(300);
            DUE.is("shunt(0, " + n + ", 1) of 300", Due.OUTSIDE, x.shunt(0, n, 1));
            DUE.is("all are left", 300, x.count(0));
        }
    }

    private static void shuntMovesThemAllOntoAnEmptyTrack() {
        DUE.by("4 shunt: all there are, to a TRACK that has none");
        TankSidings x = rowOf(99);
        DUE.is("shunt(0, 99, 5)", 99, x.shunt(0, 99, 5));
        DUE.is("none left", 0, x.count(0));
        DUE.is("take of none", Due.NOTHING, x.take(0));
        DUE.is("the last one", 1, x.about(5, 98, 1));
        DUE.is("a track is used again", 1, x.place(0, Due.WAGON, 4));
        DUE.is("the single one", 1, x.shunt(0, 1, 5));
        DUE.is("ahead of all", 4, x.about(5, 0, 1));
        DUE.is("a hundred", 100, x.count(5));
    }

    private static void shuntKeepsThemAsTheyStand() {
        DUE.by("4 shunt: ahead of all of another one, as they stand");
        TankSidings x = Yard.bare();
        DUE.is("shunt(0, 3, 1)", 3, x.shunt(Yard.TRAIN, 3, Yard.WAGON_FIRST));
        DUE.same("from", "track 0 has 1, 2 20 0 ()", Yard.seenOnTrack(x, Yard.TRAIN));
        DUE.same("to", "track 1 has 5, 1 100 0 engine, 2 30 0 (7 0 99), 3 40 49 none, 2 50 0 none, 3 60 0 none",
            Yard.seenOnTrack(x, Yard.WAGON_FIRST));
        DUE.is("a moved crate is loaded", 8, x.load(Yard.WAGON_FIRST, 1, 1, 8));
        DUE.is("what is drawn", 30 + 7 + 8 + 99 + 40 + 50 + 60, x.draw(Yard.WAGON_FIRST));
    }

    private static void shuntRefusesTheSameTrack() {
        DUE.by("4 shunt, OUTSIDE: also both are the same");
        for (int track = FIRST_TRACK; track <= LAST_TRACK; track++) {
            int same = track;
            UNCHANGED.outside("shunt(" + track + ", 1, same)", x -> x.shunt(same, 1, same));
            UNCHANGED.outside("shunt(" + track + ", 99, same)", x -> x.shunt(same, 99, same));
        }
    }

    private static void shuntTellsNothingWhereThereAreFewer() {
        DUE.by("4 shunt, NOTHING: there are fewer");
        DUE.is("as many as there are", 4, Yard.bare().shunt(Yard.TRAIN, 4, Yard.WAGON_FIRST));
        UNCHANGED.answers("one more", Due.NOTHING, Yard::bare, x -> x.shunt(Yard.TRAIN, 5, Yard.WAGON_FIRST));
        UNCHANGED.answers("99", Due.NOTHING, Yard::narrow, x -> x.shunt(Yard.TRAIN, 99, Yard.EMPTY));
        UNCHANGED.answers("one of none", Due.NOTHING, Yard::open, x -> x.shunt(Yard.EMPTY, 1, Yard.TRAIN));
        DUE.is("99 of 98", Due.NOTHING, rowOf(98).shunt(0, 99, 1));
    }

    private static void shuntTakesEveryPairOfTracks() {
        DUE.by("4 shunt: OUTSIDE");
        for (int from = FIRST_TRACK; from <= LAST_TRACK; from++) {
            for (int to = FIRST_TRACK; to <= LAST_TRACK; to++) {
                TankSidings x = new TankSidings();
                x.place(from, Due.WAGON, 5);
                DUE.is("shunt(" + from + ", 1, " + to + ")", from == to ? Due.OUTSIDE : 1, x.shunt(from, 1, to));
                DUE.is("it is there", 1, x.count(to));
            }
        }
        for (int track : Edge.outside(FIRST_TRACK, LAST_TRACK)) {
            UNCHANGED.outside("shunt(" + track + ", 1, 0)", x -> x.shunt(track, 1, 0));
            UNCHANGED.outside("shunt(0, 1, " + track + ")", x -> x.shunt(0, 1, track));
            UNCHANGED.outside("shunt(5, 1, " + track + ")", x -> x.shunt(Yard.EMPTY, 1, track));
            UNCHANGED.outside("shunt of both " + track, x -> x.shunt(track, 1, track));
        }
    }

    private static void coupleLeavesTheOtherTrackEmpty() {
        DUE.by("5 couple: all VEHICLES of another TRACK, how many it has then");
        TankSidings x = rowOf(3);
        x.place(5, Due.ENGINE, 500);
        DUE.is("three behind one", 4, x.couple(5, 0));
        DUE.same("none left", "track 0 has 0", Yard.seenOnTrack(x, 0));
        DUE.is("take of none", Due.NOTHING, x.take(0));
        x.place(0, Due.ENGINE, 400);
        DUE.is("one behind four", 5, x.couple(5, 0));
        DUE.same("all five", "track 5 has 5, 1 500 0 engine, 2 3 0 none, 2 2 0 none, 2 1 0 none, 1 400 0 engine",
            Yard.seenOnTrack(x, 5));
        DUE.is("draws all", 406, x.draw(5));
    }

    private static void coupleTakesAnOtherTrackThatIsEmpty() {
        DUE.by("5 couple: all VEHICLES of another TRACK, which has none");
        TankSidings x = Yard.narrow();
        DUE.is("couple(0, 5)", 4, x.couple(Yard.TRAIN, Yard.EMPTY));
        DUE.is("NOTHING is not told again", 1, x.reasons(1));
        DUE.same("all stay", Yard.seen(Yard.narrow()), Yard.seen(x));
    }

    private static void coupleKeepsThemAsTheyStand() {
        DUE.by("5 couple: behind the last one of a TRACK");
        TankSidings x = Yard.bare();
        DUE.is("couple(1, 0)", 6, x.couple(Yard.WAGON_FIRST, Yard.TRAIN));
        DUE.same("track 1", "track 1 has 6, 2 50 0 none, 3 60 0 none, "
            + "1 100 0 engine, 2 30 0 (7 0 99), 3 40 49 none, 2 20 0 ()", Yard.seenOnTrack(x, Yard.WAGON_FIRST));
        DUE.same("track 0", "track 0 has 0", Yard.seenOnTrack(x, Yard.TRAIN));
    }

    private static void coupleRefusesTheSameTrack() {
        DUE.by("5 couple, OUTSIDE: also both are the same");
        for (int track = FIRST_TRACK; track <= LAST_TRACK; track++) {
            int same = track;
            UNCHANGED.outside("couple(" + track + ", same)", x -> x.couple(same, same));
        }
    }

    private static void coupleTellsNothingWhereTheTrackHasNone() {
        DUE.by("5 couple, NOTHING: the TRACK has none");
        UNCHANGED.answers("with one that has some", Due.NOTHING, Yard::narrow, x -> x.couple(Yard.EMPTY, Yard.TRAIN));
        UNCHANGED.answers("with one that has none", Due.NOTHING, TankSidings::new, x -> x.couple(0, 1));
        DUE.is("one is enough", 5, Yard.bare().couple(Yard.TANK_FIRST, Yard.TRAIN));
    }

    private static void coupleTakesEveryPairOfTracks() {
        DUE.by("5 couple: OUTSIDE");
        for (int track = FIRST_TRACK; track <= LAST_TRACK; track++) {
            for (int other = FIRST_TRACK; other <= LAST_TRACK; other++) {
                TankSidings x = new TankSidings();
                x.place(track, Due.WAGON, 5);
                x.place(other, Due.WAGON, 6);
                int due = track == other ? Due.OUTSIDE : 2;
                DUE.is("couple(" + track + ", " + other + ")", due, x.couple(track, other));
                DUE.is("count of the first", 2, x.count(track));
            }
        }
        for (int track : Edge.outside(FIRST_TRACK, LAST_TRACK)) {
            UNCHANGED.outside("couple(" + track + ", 0)", x -> x.couple(track, 0));
            UNCHANGED.outside("couple(0, " + track + ")", x -> x.couple(0, track));
            UNCHANGED.outside("couple(5, " + track + ")", x -> x.couple(Yard.EMPTY, track));
            UNCHANGED.outside("couple of both " + track, x -> x.couple(track, track));
        }
    }

    private static void aboutIs(int track, int k, int... due) {
        TankSidings x = Yard.narrow();
        for (int what = 0; what <= 3; what++) {
            DUE.is("about(" + track + ", " + k + ", " + what + ")", due[what], x.about(track, k, what));
        }
    }

    private static void aboutTellsWhatIsThere() {
        DUE.by("24 about: its sort, WEIGHT, level, how many CRATES");
        aboutIs(Yard.TRAIN, Yard.ENGINE, 1, 100, 0, 0);
        aboutIs(Yard.TRAIN, Yard.LOADED, 2, 30, 0, 3);
        aboutIs(Yard.TRAIN, Yard.WITHOUT_CRATES, 3, 40, 49, 0);
        aboutIs(Yard.TRAIN, Yard.ZERO_CRATES, 2, 20, 0, 0);
        aboutIs(Yard.BROKEN, 2, 3, 8, 99, 0);
        TankSidings x = Yard.bare();
        x.crates(Yard.TRAIN, Yard.LOADED, 12);
        x.defect(Yard.TRAIN, Yard.LOADED, 1);
        DUE.is("12 CRATES", 12, x.about(Yard.TRAIN, Yard.LOADED, 3));
        DUE.is("level 1", 1, x.about(Yard.TRAIN, Yard.LOADED, 2));
    }

    private static void aboutAnswersZeroWhereThereIsNone() {
        DUE.by("24 about: 0 where there is none");
        aboutIs(Yard.TRAIN, Yard.NONE, 0, 0, 0, 0);
        aboutIs(Yard.TRAIN, Integer.MAX_VALUE, 0, 0, 0, 0);
        aboutIs(Yard.EMPTY, 0, 0, 0, 0, 0);
        aboutIs(Yard.EMPTY, Integer.MAX_VALUE, 0, 0, 0, 0);
        for (int what = 0; what <= 3; what++) {
            int asked = what;
            UNCHANGED.answers("about(0, 4, " + what + ")", 0, Yard::narrow, x -> x.about(Yard.TRAIN, Yard.NONE, asked));
        }
    }

    private static void aboutRefusesOtherNumbers() {
        DUE.by("24 about: OUTSIDE");
        for (int track : Edge.outside(FIRST_TRACK, LAST_TRACK)) {
            UNCHANGED.outside("about(" + track + ", 0, 0)", x -> x.about(track, 0, 0));
        }
        for (int k : Edge.below(0)) {
            UNCHANGED.outside("about(0, " + k + ", 0)", x -> x.about(0, k, 0));
        }
        for (int what : Edge.outside(0, 3)) {
            UNCHANGED.outside("about(0, 0, " + what + ")", x -> x.about(0, 0, what));
            UNCHANGED.outside("about(5, 9, " + what + ")", x -> x.about(Yard.EMPTY, 9, what));
        }
    }

    private static void countTellsEmptyAndFull() {
        DUE.by("25 count: how many VEHICLES a TRACK has");
        int[] due = {4, 2, 1, 2, 3, 0};
        for (int track = FIRST_TRACK; track <= LAST_TRACK; track++) {
            int asked = track;
            UNCHANGED.answers("count(" + track + ")", due[track], Yard::narrow, x -> x.count(asked));
        }
    }

    private static void countRefusesOtherTracks() {
        DUE.by("25 count: OUTSIDE");
        for (int track : Edge.outside(FIRST_TRACK, LAST_TRACK)) {
            UNCHANGED.outside("count(" + track + ")", x -> x.count(track));
        }
    }
}
