/** Yards with something of every kind in them, and all that can be seen of a yard, as one text. */
final class Yard {
    /** Tracks of the yards below, by what stands in front. */
    static final int TRAIN = 0;
    static final int WAGON_FIRST = 1;
    static final int TANK_FIRST = 2;
    static final int TOO_HEAVY = 3;
    static final int BROKEN = 4;
    static final int EMPTY = 5;

    /** Vehicles of the track TRAIN; NONE is the first that is not there. */
    static final int ENGINE = 0;
    static final int LOADED = 1;
    static final int WITHOUT_CRATES = 2;
    static final int ZERO_CRATES = 3;
    static final int NONE = 4;

    interface Call {
        int on(TankSidings x);
    }

    private Yard() {
    }

    /** Tracks alone: no siding, no plan. */
    static TankSidings bare() {
        TankSidings x = new TankSidings();
        x.place(TRAIN, Due.WAGON, 20);
        x.place(TRAIN, Due.TANK, 40);
        x.place(TRAIN, Due.WAGON, 30);
        x.place(TRAIN, Due.ENGINE, 100);
        x.crates(TRAIN, LOADED, 3);
        x.load(TRAIN, LOADED, 0, 7);
        x.load(TRAIN, LOADED, 2, 99);
        x.crates(TRAIN, ZERO_CRATES, 0);
        x.defect(TRAIN, WITHOUT_CRATES, 49);
        x.place(WAGON_FIRST, Due.TANK, 60);
        x.place(WAGON_FIRST, Due.WAGON, 50);
        x.place(TANK_FIRST, Due.TANK, 70);
        x.crates(TANK_FIRST, 0, 2);
        x.load(TANK_FIRST, 0, 1, 5);
        x.defect(TANK_FIRST, 0, 50);
        x.place(TOO_HEAVY, Due.WAGON, 11);
        x.place(TOO_HEAVY, Due.ENGINE, 1);
        x.place(BROKEN, Due.TANK, 8);
        x.place(BROKEN, Due.WAGON, 9);
        x.place(BROKEN, Due.ENGINE, 12);
        x.defect(BROKEN, 1, 98);
        x.defect(BROKEN, 2, 99);
        return x;
    }

    /** With a plan, and a siding for tanks alone: a tank in its first and last place, none between. */
    static TankSidings narrow() {
        return withSidingAndPlan(true);
    }

    /** The same with a siding for all wagons. */
    static TankSidings open() {
        return withSidingAndPlan(false);
    }

    private static TankSidings withSidingAndPlan(boolean tanks) {
        TankSidings x = bare();
        tellEachReasonOnce(x);
        x.siding(3, tanks);
        x.place(EMPTY, Due.TANK, 90);
        x.place(EMPTY, Due.TANK, 80);
        x.crates(EMPTY, 0, 2);
        x.load(EMPTY, 0, 0, 6);
        x.defect(EMPTY, 0, 3);
        x.stow(0, EMPTY);
        x.stow(2, EMPTY);
        x.plan(2, 3);
        for (int at = 0; at < 6; at++) {
            x.note(at / 3, at % 3, at + 1);
        }
        return x;
    }

    /** So that a count or a level which is lost on the way is seen: each reason has 1, and level() is 50. */
    private static void tellEachReasonOnce(TankSidings x) {
        x.take(EMPTY);
        x.length(TRAIN, ENGINE);
        x.siding(1, true);
        x.stow(0, WAGON_FIRST);
        x.siding(-1, true);
        x.fetch(1, EMPTY);
        x.draw(TOO_HEAVY);
        x.report(TANK_FIRST, 0);
    }

    /** All that can be seen but level and reasons; looking takes the siding's wagons out, so it is the last look. */
    static String seen(TankSidings x) {
        StringBuilder text = new StringBuilder();
        for (int track = 0; track < 6; track++) {
            text.append(seenOnTrack(x, track)).append("; ");
        }
        return text.append(seenPlan(x)).append("; ").append(seenSiding(x)).toString();
    }

    static String seenOnTrack(TankSidings x, int track) {
        int count = x.count(track);
        StringBuilder text = new StringBuilder("track ").append(track).append(" has ").append(count);
        for (int k = 0; k < count; k++) {
            text.append(", ").append(seenVehicle(x, track, k));
        }
        return text.append(x.about(track, count, 0) == 0 ? "" : ", and one more").toString();
    }

    /** Its sort, weight, level and crates: 'none' beside '()', which are 0 of them. */
    static String seenVehicle(TankSidings x, int track, int k) {
        StringBuilder text = new StringBuilder();
        for (int what = 0; what < 3; what++) {
            text.append(x.about(track, k, what)).append(' ');
        }
        int length = x.length(track, k);
        if (length < 0) {
            return text.append(length == Due.KIND ? "engine" : "none").toString();
        }
        text.append('(');
        for (int i = 0; i < length; i++) {
            text.append(i == 0 ? "" : " ").append(x.crate(track, k, i));
        }
        return text.append(')').toString();
    }

    static String seenPlan(TankSidings x) {
        if (x.wide(0) == Due.NOTHING) {
            return "no plan";
        }
        StringBuilder text = new StringBuilder("plan");
        int wide = x.wide(0);
        for (int i = 0; wide >= 0; i++) {
            text.append(" (");
            for (int j = 0; j < wide; j++) {
                text.append(j == 0 ? "" : " ").append(x.noted(i, j));
            }
            text.append(')');
            wide = x.wide(i + 1);
        }
        return text.toString();
    }

    /** Whether a wagon finds room tells whether the siding is for tanks alone. */
    static String seenSiding(TankSidings x) {
        int room = x.room();
        if (room < 0) {
            return "no siding";
        }
        StringBuilder text = new StringBuilder("siding of ").append(room);
        for (int place = 0; place < room; place++) {
            boolean full = x.fetch(place, EMPTY) > 0;
            text.append(", ").append(full ? seenVehicle(x, EMPTY, 0) : "empty");
        }
        x.place(EMPTY, Due.WAGON, 1);
        return text.append(x.stow(0, EMPTY) == Due.NARROW ? ", for tanks" : ", for all").toString();
    }
}
