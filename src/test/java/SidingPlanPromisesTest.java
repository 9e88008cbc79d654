/** Promises 15 to 23: the siding and the plan. */
public final class SidingPlanPromisesTest {
    private static final int LOW = Integer.MIN_VALUE;
    private static final int HIGH = Integer.MAX_VALUE;
    private static final Due DUE = new Due("SidingPlanPromisesTest");

    public static void main(String[] args) {
        sidingIsNewAndEmpty();
        sidingRefuses();
        sidingOfNoPlaces();
        stowMovesTheFront();
        stowReplaces();
        stowTellsTheFirstReason();
        stowOfNoneEmptiesThePlace();
        stowKeepsTanksAlone();
        fetchBringsBackTheSameWagon();
        fetchRefuses();
        planIsNewAndZero();
        planRefuses();
        planOfNone();
        noteSetsOneNumber();
        noteRefuses();
        notedRefuses();
        wideRefuses();
        awayTellsWhetherThereWasOne();
        DUE.end();
    }

    /** Track 0: a tank (0), a wagon (1); track 1: an engine. */
    private static TankSidings yard() {
        TankSidings x = new TankSidings();
        x.place(0, Due.WAGON, 20);
        x.place(0, Due.TANK, 30);
        x.place(1, Due.ENGINE, 10);
        return x;
    }

    private static void sidingIsNewAndEmpty() {
        TankSidings x = yard();
        DUE.is("no siding", Due.NOTHING, x.room());
        DUE.is("12 places", 12, x.siding(12, false));
        DUE.is("room 12", 12, x.room());
        x.stow(11, 0);
        DUE.is("a new one", 12, x.siding(12, false));
        DUE.is("all empty", Due.NOTHING, x.fetch(11, 0));
        DUE.is("a smaller one", 1, x.siding(1, true));
        DUE.is("room 1", 1, x.room());
    }

    private static void sidingRefuses() {
        TankSidings x = yard();
        DUE.is("13", Due.OUTSIDE, x.siding(13, false));
        DUE.is("highest", Due.OUTSIDE, x.siding(HIGH, true));
        DUE.is("-1", Due.SIZE, x.siding(-1, false));
        DUE.is("lowest", Due.SIZE, x.siding(LOW, true));
        DUE.is("still none", Due.NOTHING, x.room());
        x.siding(2, true);
        x.stow(1, 0);
        DUE.is("-1 again", Due.SIZE, x.siding(-1, false));
        DUE.is("13 again", Due.OUTSIDE, x.siding(13, false));
        DUE.is("it stays", 2, x.room());
        DUE.is("for tanks alone", Due.NARROW, x.stow(0, 0));
        DUE.is("with what is in it", 2, x.fetch(1, 0));
    }

    private static void sidingOfNoPlaces() {
        TankSidings x = yard();
        DUE.is("0 places", 0, x.siding(0, false));
        DUE.is("room 0", 0, x.room());
        DUE.is("stow", Due.PLACE, x.stow(0, 0));
        DUE.is("fetch", Due.PLACE, x.fetch(0, 0));
        DUE.is("there was one", 1, x.away(0));
    }

    private static void stowMovesTheFront() {
        TankSidings x = yard();
        x.siding(2, false);
        DUE.is("stow a tank", 1, x.stow(0, 0));
        DUE.is("the wagon is the front", 20, x.about(0, 0, 1));
        DUE.is("stow a wagon", 0, x.stow(1, 0));
        DUE.is("none left", 0, x.count(0));
    }

    private static void stowReplaces() {
        TankSidings x = yard();
        x.siding(1, false);
        DUE.is("stow a tank", 1, x.stow(0, 0));
        DUE.is("stow a wagon there", 0, x.stow(0, 0));
        DUE.is("fetch", 1, x.fetch(0, 0));
        DUE.is("the wagon", 20, x.about(0, 0, 1));
        DUE.is("the tank is no more", Due.NOTHING, x.fetch(0, 0));
    }

    private static void stowTellsTheFirstReason() {
        TankSidings x = yard();
        DUE.is("track -1", Due.OUTSIDE, x.stow(0, -1));
        DUE.is("track 6", Due.OUTSIDE, x.stow(0, 6));
        DUE.is("engine ahead of no siding", Due.KIND, x.stow(-1, 1));
        DUE.is("no siding ahead of place", Due.NOTHING, x.stow(-1, 0));
        x.siding(2, true);
        DUE.is("engine ahead of place", Due.KIND, x.stow(2, 1));
        x.take(0);
        for (int place : new int[] {LOW, -1, 2, HIGH}) {
            DUE.is("place ahead of narrow " + place, Due.PLACE, x.stow(place, 0));
            DUE.is("place ahead of no vehicle " + place, Due.PLACE, x.stow(place, 3));
        }
        DUE.is("narrow", Due.NARROW, x.stow(0, 0));
        DUE.is("the wagon stays", 1, x.count(0));
        DUE.is("the engine stays", 1, x.count(1));
    }

    private static void stowOfNoneEmptiesThePlace() {
        for (int tanks = 0; tanks < 2; tanks++) {
            TankSidings x = yard();
            x.siding(2, tanks == 1);
            x.stow(1, 0);
            DUE.is("no vehicle, another place", Due.NOTHING, x.stow(0, 5));
            DUE.is("the place is full", 1, x.fetch(1, 4));
            x.stow(1, 4);
            DUE.is("no vehicle", Due.NOTHING, x.stow(1, 5));
            DUE.is("the place is empty", Due.NOTHING, x.fetch(1, 4));
            DUE.is("no vehicle came", 0, x.count(4));
        }
    }

    private static void stowKeepsTanksAlone() {
        TankSidings x = yard();
        x.siding(1, true);
        DUE.is("a tank", 1, x.stow(0, 0));
        DUE.is("a wagon", Due.NARROW, x.stow(0, 0));
        DUE.is("the tank is there still", 2, x.fetch(0, 0));
        DUE.is("a tank", Due.TANK, x.about(0, 0, 0));
        DUE.is("narrow told once", 1, x.reasons(3));
    }

    private static void fetchBringsBackTheSameWagon() {
        TankSidings x = yard();
        x.crates(0, 0, 3);
        x.load(0, 0, 1, 7);
        x.defect(0, 0, 60);
        x.siding(1, true);
        x.stow(0, 0);
        DUE.is("fetch", 2, x.fetch(0, 1));
        DUE.is("it is the front", Due.TANK, x.about(1, 0, 0));
        DUE.is("the engine is behind", Due.ENGINE, x.about(1, 1, 0));
        DUE.is("none behind that", 0, x.about(1, 2, 0));
        DUE.is("its load", 37, x.weigh(1, 0));
        DUE.is("its defect", 60, x.about(1, 0, 2));
        DUE.is("track 0 is as it was", 1, x.count(0));
        DUE.is("the place is empty", Due.NOTHING, x.fetch(0, 1));
    }

    private static void fetchRefuses() {
        TankSidings x = yard();
        DUE.is("track -1", Due.OUTSIDE, x.fetch(0, -1));
        DUE.is("track 6", Due.OUTSIDE, x.fetch(0, 6));
        DUE.is("no siding", Due.NOTHING, x.fetch(-1, 0));
        x.siding(2, false);
        for (int place : new int[] {LOW, -1, 2, HIGH}) {
            DUE.is("place " + place, Due.PLACE, x.fetch(place, 0));
        }
        DUE.is("empty", Due.NOTHING, x.fetch(1, 0));
        DUE.is("track 6 ahead of place", Due.OUTSIDE, x.fetch(9, 6));
        DUE.is("none came", 2, x.count(0));
    }

    private static void planIsNewAndZero() {
        TankSidings x = new TankSidings();
        DUE.is("12 by 12", 144, x.plan(12, 12));
        for (int i = 0; i < 12; i++) {
            DUE.is("wide " + i, 12, x.wide(i));
            for (int j = 0; j < 12; j++) {
                DUE.is("0 at first", 0, x.noted(i, j));
                x.note(i, j, (i * 12 + j) % 100);
            }
        }
        for (int at = 0; at < 144; at++) {
            DUE.is("each its own", at % 100, x.noted(at / 12, at % 12));
        }
        DUE.is("a new one", 10, x.plan(2, 5));
        DUE.is("0 again", 0, x.noted(1, 4));
        DUE.is("5 wide", 5, x.wide(1));
        DUE.is("no third row", Due.PLACE, x.wide(2));
    }

    private static void planRefuses() {
        TankSidings x = new TankSidings();
        DUE.is("13 rows", Due.OUTSIDE, x.plan(13, 1));
        DUE.is("13 numbers", Due.OUTSIDE, x.plan(1, 13));
        DUE.is("13 ahead of size", Due.OUTSIDE, x.plan(13, -1));
        DUE.is("size behind 13", Due.OUTSIDE, x.plan(-1, 13));
        DUE.is("-1 rows", Due.SIZE, x.plan(-1, 1));
        DUE.is("-1 numbers", Due.SIZE, x.plan(1, -1));
        DUE.is("-1 numbers of no rows", Due.SIZE, x.plan(0, -1));
        DUE.is("both", Due.SIZE, x.plan(LOW, LOW));
        DUE.is("still none", Due.NOTHING, x.wide(0));
        DUE.is("size told 4 times", 4, x.reasons(4));
        x.plan(2, 3);
        x.note(1, 2, 8);
        x.plan(-1, -1);
        x.plan(13, 13);
        DUE.is("it stays", 8, x.noted(1, 2));
    }

    private static void planOfNone() {
        TankSidings x = new TankSidings();
        DUE.is("rows of none", 0, x.plan(3, 0));
        DUE.is("wide", 0, x.wide(2));
        DUE.is("noted", Due.PLACE, x.noted(2, 0));
        DUE.is("note", Due.PLACE, x.note(0, 0, 1));
        DUE.is("no rows", 0, x.plan(0, 12));
        DUE.is("wide of no row", Due.PLACE, x.wide(0));
        DUE.is("there was one", 1, x.away(1));
    }

    private static void noteSetsOneNumber() {
        TankSidings x = new TankSidings();
        x.plan(2, 3);
        DUE.is("note 99", 99, x.note(1, 0, 99));
        DUE.is("noted", 99, x.noted(1, 0));
        DUE.is("not the one ahead", 0, x.noted(0, 2));
        DUE.is("not the one behind", 0, x.noted(1, 1));
        DUE.is("not the one turned", 0, x.noted(0, 1));
        DUE.is("note 0", 0, x.note(1, 0, 0));
        DUE.is("noted 0", 0, x.noted(1, 0));
    }

    private static void noteRefuses() {
        TankSidings x = new TankSidings();
        DUE.is("-1 ahead of no plan", Due.OUTSIDE, x.note(0, 0, -1));
        DUE.is("no plan", Due.NOTHING, x.note(-1, 0, 1));
        x.plan(2, 3);
        DUE.is("-1", Due.OUTSIDE, x.note(0, 0, -1));
        DUE.is("100", Due.OUTSIDE, x.note(0, 0, 100));
        DUE.is("100 ahead of place", Due.OUTSIDE, x.note(5, 0, 100));
        for (int wrong : new int[] {LOW, -1, 3, HIGH}) {
            DUE.is("row " + wrong, Due.PLACE, x.note(wrong, 0, 1));
            DUE.is("number " + wrong, Due.PLACE, x.note(0, wrong, 1));
        }
        DUE.is("row 2", Due.PLACE, x.note(2, 0, 1));
        for (int at = 0; at < 6; at++) {
            DUE.is("none noted", 0, x.noted(at / 3, at % 3));
        }
    }

    private static void notedRefuses() {
        TankSidings x = new TankSidings();
        DUE.is("no plan", Due.NOTHING, x.noted(-1, -1));
        x.plan(2, 3);
        for (int wrong : new int[] {LOW, -1, 3, HIGH}) {
            DUE.is("row " + wrong, Due.PLACE, x.noted(wrong, 0));
            DUE.is("number " + wrong, Due.PLACE, x.noted(0, wrong));
        }
        DUE.is("row 2", Due.PLACE, x.noted(2, 0));
    }

    private static void wideRefuses() {
        TankSidings x = new TankSidings();
        DUE.is("no plan", Due.NOTHING, x.wide(-1));
        x.plan(2, 3);
        DUE.is("wide", 3, x.wide(1));
        for (int wrong : new int[] {LOW, -1, 2, HIGH}) {
            DUE.is("row " + wrong, Due.PLACE, x.wide(wrong));
        }
    }

    private static void awayTellsWhetherThereWasOne() {
        TankSidings x = yard();
        x.siding(1, false);
        x.plan(1, 1);
        x.stow(0, 0);
        for (int what : new int[] {LOW, -1, 2, HIGH}) {
            DUE.is("away of " + what, Due.OUTSIDE, x.away(what));
        }
        DUE.is("siding", 1, x.away(0));
        DUE.is("siding again", 0, x.away(0));
        DUE.is("no room", Due.NOTHING, x.room());
        DUE.is("the plan stays", 1, x.wide(0));
        x.siding(1, false);
        DUE.is("what was in it is no more", Due.NOTHING, x.fetch(0, 0));
        DUE.is("plan", 1, x.away(1));
        DUE.is("plan again", 0, x.away(1));
        DUE.is("no plan", Due.NOTHING, x.noted(0, 0));
        DUE.is("the siding stays", 1, x.room());
    }
}
