/** Promises 6 to 14 and 26: crates, loads, defects, drawing, and what was told. */
public final class VehiclePromisesTest {
    private static final int LOW = Integer.MIN_VALUE;
    private static final int HIGH = Integer.MAX_VALUE;
    private static final Due DUE = new Due("VehiclePromisesTest");

    public static void main(String[] args) {
        cratesAreNewAndZero();
        cratesRefuse();
        cratesOfNoneAreThere();
        loadSetsOneCrate();
        loadRefuses();
        crateRefuses();
        lengthRefuses();
        weighAddsCrates();
        defectSetsALevel();
        reportTellsTheLevel();
        drawAddsLoads();
        drawRefuses();
        drawTellsTheFirstGraveDefect();
        drawStalls();
        levelIsTheLatest();
        reasonsAreCounted();
        DUE.end();
    }

    /** Track 0: an engine (0), a wagon (1), a tank (2). */
    private static TankSidings train() {
        TankSidings x = new TankSidings();
        x.place(0, Due.TANK, 40);
        x.place(0, Due.WAGON, 30);
        x.place(0, Due.ENGINE, 10);
        return x;
    }

    private static void cratesAreNewAndZero() {
        TankSidings x = train();
        DUE.is("12 crates", 12, x.crates(0, 1, 12));
        DUE.is("length 12", 12, x.length(0, 1));
        x.load(0, 1, 1, 9);
        DUE.is("crates again", 2, x.crates(0, 1, 2));
        DUE.is("length 2", 2, x.length(0, 1));
        DUE.is("0 again", 0, x.crate(0, 1, 1));
        DUE.is("a tank has crates too", 1, x.crates(0, 2, 1));
        DUE.is("each its own", 2, x.length(0, 1));
        x.shunt(0, 2, 1);
        DUE.is("crates go along", 2, x.length(1, 1));
    }

    private static void cratesRefuse() {
        TankSidings x = train();
        x.crates(0, 1, 3);
        x.load(0, 1, 0, 8);
        DUE.is("track -1", Due.OUTSIDE, x.crates(-1, 0, 1));
        DUE.is("track 6", Due.OUTSIDE, x.crates(6, 0, 1));
        DUE.is("k -1", Due.OUTSIDE, x.crates(0, -1, 1));
        DUE.is("k lowest", Due.OUTSIDE, x.crates(0, LOW, -1));
        DUE.is("13 for a wagon", Due.OUTSIDE, x.crates(0, 1, 13));
        DUE.is("13 for an engine", Due.OUTSIDE, x.crates(0, 0, 13));
        DUE.is("13 for none", Due.OUTSIDE, x.crates(0, 3, HIGH));
        DUE.is("engine", Due.KIND, x.crates(0, 0, 1));
        DUE.is("engine ahead of size", Due.KIND, x.crates(0, 0, -1));
        DUE.is("size", Due.SIZE, x.crates(0, 1, -1));
        DUE.is("size lowest", Due.SIZE, x.crates(0, 1, LOW));
        DUE.is("size ahead of nothing", Due.SIZE, x.crates(0, 3, -1));
        DUE.is("nothing", Due.NOTHING, x.crates(0, 3, 0));
        DUE.is("nothing far away", Due.NOTHING, x.crates(0, HIGH, 1));
        DUE.is("they stay", 3, x.length(0, 1));
        DUE.is("and what is in them", 8, x.crate(0, 1, 0));
    }

    private static void cratesOfNoneAreThere() {
        TankSidings x = train();
        DUE.is("0 crates", 0, x.crates(0, 1, 0));
        DUE.is("length 0", 0, x.length(0, 1));
        DUE.is("no place in them", Due.PLACE, x.crate(0, 1, 0));
        DUE.is("none to load", Due.PLACE, x.load(0, 1, 0, 0));
        DUE.is("about", 0, x.about(0, 1, 3));
        DUE.is("weigh", 30, x.weigh(0, 1));
    }

    private static void loadSetsOneCrate() {
        TankSidings x = train();
        x.crates(0, 2, 12);
        DUE.is("load the last", 99, x.load(0, 2, 11, 99));
        DUE.is("load the first", 1, x.load(0, 2, 0, 1));
        DUE.is("crate 11", 99, x.crate(0, 2, 11));
        DUE.is("crate 0", 1, x.crate(0, 2, 0));
        DUE.is("crate 1", 0, x.crate(0, 2, 1));
        DUE.is("load again", 0, x.load(0, 2, 11, 0));
        DUE.is("crate 11 again", 0, x.crate(0, 2, 11));
    }

    private static void loadRefuses() {
        TankSidings x = train();
        x.crates(0, 1, 2);
        DUE.is("track -1", Due.OUTSIDE, x.load(-1, 1, 0, 1));
        DUE.is("track 6", Due.OUTSIDE, x.load(6, 1, 0, 1));
        DUE.is("k -1", Due.OUTSIDE, x.load(0, -1, 0, 1));
        DUE.is("v -1", Due.OUTSIDE, x.load(0, 1, 0, -1));
        DUE.is("v 100", Due.OUTSIDE, x.load(0, 1, 0, 100));
        DUE.is("v 100 ahead of all", Due.OUTSIDE, x.load(0, 0, 9, 100));
        DUE.is("engine", Due.KIND, x.load(0, 0, 0, 1));
        DUE.is("engine ahead of place", Due.KIND, x.load(0, 0, -1, 1));
        DUE.is("no vehicle", Due.NOTHING, x.load(0, 3, 0, 1));
        DUE.is("no crates", Due.NOTHING, x.load(0, 2, 0, 1));
        DUE.is("no crates ahead of place", Due.NOTHING, x.load(0, 2, -1, 1));
        for (int i : new int[] {LOW, -1, 2, HIGH}) {
            DUE.is("no crate " + i, Due.PLACE, x.load(0, 1, i, 1));
        }
        DUE.is("nothing loaded", 30, x.weigh(0, 1));
    }

    private static void crateRefuses() {
        TankSidings x = train();
        x.crates(0, 1, 2);
        DUE.is("track -1", Due.OUTSIDE, x.crate(-1, 1, 0));
        DUE.is("track 6", Due.OUTSIDE, x.crate(6, 1, 0));
        DUE.is("k -1", Due.OUTSIDE, x.crate(0, -1, 0));
        DUE.is("engine", Due.KIND, x.crate(0, 0, 9));
        DUE.is("no vehicle", Due.NOTHING, x.crate(0, 3, 9));
        DUE.is("no crates", Due.NOTHING, x.crate(0, 2, 9));
        for (int i : new int[] {LOW, -1, 2, HIGH}) {
            DUE.is("no crate " + i, Due.PLACE, x.crate(0, 1, i));
        }
    }

    private static void lengthRefuses() {
        TankSidings x = train();
        DUE.is("track -1", Due.OUTSIDE, x.length(-1, 1));
        DUE.is("track 6", Due.OUTSIDE, x.length(6, 1));
        DUE.is("k -1", Due.OUTSIDE, x.length(0, -1));
        DUE.is("engine", Due.KIND, x.length(0, 0));
        DUE.is("no vehicle", Due.NOTHING, x.length(0, 3));
        DUE.is("no vehicle far away", Due.NOTHING, x.length(0, HIGH));
        DUE.is("no crates", Due.NOTHING, x.length(0, 1));
        x.crates(0, 1, 5);
        DUE.is("crates", 5, x.length(0, 1));
    }

    private static void weighAddsCrates() {
        TankSidings x = train();
        x.crates(0, 1, 12);
        DUE.is("crates of 0", 30, x.weigh(0, 1));
        for (int i = 0; i < 12; i++) {
            x.load(0, 1, i, 99);
        }
        DUE.is("full crates", 30 + 12 * 99, x.weigh(0, 1));
        DUE.is("engine", 10, x.weigh(0, 0));
        DUE.is("tank without crates", 40, x.weigh(0, 2));
        DUE.is("no vehicle", Due.NOTHING, x.weigh(0, 3));
        DUE.is("track -1", Due.OUTSIDE, x.weigh(-1, 0));
        DUE.is("track 6", Due.OUTSIDE, x.weigh(6, 0));
        DUE.is("k -1", Due.OUTSIDE, x.weigh(0, -1));
    }

    private static void defectSetsALevel() {
        TankSidings x = train();
        DUE.is("99 of an engine", 99, x.defect(0, 0, 99));
        DUE.is("1 of a wagon", 1, x.defect(0, 1, 1));
        DUE.is("about 99", 99, x.about(0, 0, 2));
        DUE.is("about 1", 1, x.about(0, 1, 2));
        DUE.is("none any more", 0, x.defect(0, 0, 0));
        DUE.is("about none", 0, x.about(0, 0, 2));
        DUE.is("track -1", Due.OUTSIDE, x.defect(-1, 0, 1));
        DUE.is("track 6", Due.OUTSIDE, x.defect(6, 0, 1));
        DUE.is("k -1", Due.OUTSIDE, x.defect(0, -1, 1));
        DUE.is("level -1", Due.OUTSIDE, x.defect(0, 1, -1));
        DUE.is("level 100", Due.OUTSIDE, x.defect(0, 1, 100));
        DUE.is("level 100 of none", Due.OUTSIDE, x.defect(0, 3, 100));
        DUE.is("no vehicle", Due.NOTHING, x.defect(0, 3, 1));
        DUE.is("no vehicle, no defect", Due.NOTHING, x.defect(0, 3, 0));
        DUE.is("about 1 still", 1, x.about(0, 1, 2));
        DUE.is("not reported", 0, x.reasons(7));
        DUE.is("no level", 0, x.level());
    }

    private static void reportTellsTheLevel() {
        TankSidings x = train();
        x.defect(0, 1, 1);
        x.defect(0, 0, 99);
        DUE.is("report 1", Due.DEFECT, x.report(0, 1));
        DUE.is("level 1", 1, x.level());
        DUE.is("report of an engine", Due.DEFECT, x.report(0, 0));
        DUE.is("level 99", 99, x.level());
        DUE.is("it stays", 99, x.about(0, 0, 2));
        DUE.is("reported again", Due.DEFECT, x.report(0, 0));
        DUE.is("no defect", Due.NOTHING, x.report(0, 2));
        DUE.is("no vehicle", Due.NOTHING, x.report(0, 3));
        DUE.is("track -1", Due.OUTSIDE, x.report(-1, 0));
        DUE.is("track 6", Due.OUTSIDE, x.report(6, 0));
        DUE.is("k -1", Due.OUTSIDE, x.report(0, -1));
        DUE.is("level 99 still", 99, x.level());
        x.defect(0, 0, 0);
        DUE.is("mended", Due.NOTHING, x.report(0, 0));
        DUE.is("three reported", 3, x.reasons(7));
        DUE.is("three of nothing", 3, x.reasons(1));
    }

    private static void drawAddsLoads() {
        TankSidings x = train();
        DUE.is("both", 70, x.draw(0));
        x.crates(0, 1, 1);
        x.load(0, 1, 0, 5);
        DUE.is("with crates", 75, x.draw(0));
        x.place(0, Due.ENGINE, 50);
        DUE.is("an engine behind an engine", 85, x.draw(0));
        x.place(1, Due.ENGINE, 1);
        DUE.is("none behind it", 0, x.draw(1));
        DUE.is("all stay", 4, x.count(0));
    }

    private static void drawRefuses() {
        TankSidings x = train();
        DUE.is("track -1", Due.OUTSIDE, x.draw(-1));
        DUE.is("track 6", Due.OUTSIDE, x.draw(6));
        DUE.is("none", Due.NOTHING, x.draw(1));
        x.place(1, Due.TANK, 5);
        DUE.is("a tank", Due.KIND, x.draw(1));
        x.place(2, Due.WAGON, 1);
        x.place(2, Due.WAGON, 1);
        x.defect(2, 1, 99);
        DUE.is("a wagon ahead of a defect", Due.KIND, x.draw(2));
        DUE.is("no level", 0, x.level());
    }

    private static void drawTellsTheFirstGraveDefect() {
        TankSidings x = train();
        x.defect(0, 0, 99);
        DUE.is("its own defect does not count", 70, x.draw(0));
        x.defect(0, 1, 49);
        DUE.is("49 does not count", 70, x.draw(0));
        x.defect(0, 2, 50);
        DUE.is("50 counts", Due.DEFECT, x.draw(0));
        DUE.is("level 50", 50, x.level());
        x.defect(0, 1, 77);
        DUE.is("two", Due.DEFECT, x.draw(0));
        DUE.is("the first one", 77, x.level());
        x.place(0, Due.ENGINE, 1);
        DUE.is("an engine behind it", Due.DEFECT, x.draw(0));
        DUE.is("its level, ahead of stalled", 99, x.level());
        DUE.is("never stalled", 0, x.reasons(6));
        DUE.is("three defects", 3, x.reasons(7));
    }

    private static void drawStalls() {
        TankSidings x = new TankSidings();
        x.place(0, Due.WAGON, 1);
        x.place(0, Due.WAGON, 39);
        x.place(0, Due.ENGINE, 4);
        DUE.is("just 10 times", 40, x.draw(0));
        x.crates(0, 2, 1);
        x.load(0, 2, 0, 1);
        DUE.is("one more", Due.STALLED, x.draw(0));
        DUE.is("too heavy by 1", 1, x.level());
        x.load(0, 2, 0, 99);
        DUE.is("99 more", Due.STALLED, x.draw(0));
        DUE.is("too heavy by 99", 99, x.level());
        DUE.is("two stalled", 2, x.reasons(6));
        DUE.is("all stay", 3, x.count(0));
    }

    private static void levelIsTheLatest() {
        TankSidings x = train();
        x.place(0, Due.ENGINE, 1);
        DUE.is("stalled", Due.STALLED, x.draw(0));
        DUE.is("level of stalled", 70, x.level());
        x.defect(0, 1, 5);
        DUE.is("report", Due.DEFECT, x.report(0, 1));
        DUE.is("level of the defect", 5, x.level());
        DUE.is("stalled again", Due.STALLED, x.draw(0));
        DUE.is("level of stalled again", 70, x.level());
        x.take(0);
        DUE.is("goes well", 70, x.draw(0));
        DUE.is("no report", Due.NOTHING, x.report(0, 2));
        DUE.is("a kind", Due.KIND, x.crates(0, 0, 1));
        DUE.is("level stays", 70, x.level());
    }

    private static void reasonsAreCounted() {
        TankSidings x = train();
        x.take(5);
        x.length(0, 0);
        x.length(0, 0);
        x.siding(1, true);
        x.take(0);
        for (int n = 0; n < 3; n++) {
            x.stow(0, 0);
        }
        for (int n = 0; n < 4; n++) {
            x.siding(-1, false);
        }
        for (int n = 0; n < 5; n++) {
            x.fetch(1, 0);
        }
        x.place(0, Due.ENGINE, 1);
        for (int n = 0; n < 6; n++) {
            x.draw(0);
        }
        x.defect(0, 0, 3);
        for (int n = 0; n < 7; n++) {
            x.report(0, 0);
        }
        x.take(-1);
        x.place(9, 9, 9);
        for (int r = 1; r <= 7; r++) {
            DUE.is("reasons(" + r + ")", r, x.reasons(r));
        }
        for (int r : new int[] {LOW, -1, 0, 8, HIGH}) {
            DUE.is("reasons(" + r + ")", Due.OUTSIDE, x.reasons(r));
        }
    }
}
