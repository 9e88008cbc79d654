/** A yard of tracks with a siding and a plan; DOC.md tells what each call promises. */
public final class TankSidings {
    public static final int OUTSIDE = -1;

    private static final int NOTHING = 1;
    private static final int KIND = 2;
    private static final int NARROW = 3;
    private static final int SIZE = 4;
    private static final int PLACE = 5;
    private static final int STALLED = 6;
    private static final int DEFECT = 7;

    private static final int ENGINE = 1;
    private static final int TANK = 3;

    private static final int TRACKS = 6;
    private static final int MOST_WEIGHT = 1000;
    private static final int MOST_SHUNTED = 99;
    private static final int MOST_IN_ROW = 12;
    private static final int MOST_NUMBER = 99;
    private static final int GRAVE_LEVEL = 50;
    private static final int PULL_PER_WEIGHT = 10;
    /** An object is used for 512 calls, so no promised run can place more. */
    private static final int MOST_PLACED = 512;

    private final Track[] tracks = new Track[TRACKS];
    private final int[] told = new int[DEFECT + 1];
    private Siding yardSiding;
    private Plan yardPlan;
    private int latestLevel;
    private int placed;

    public TankSidings() {
        for (int t = 0; t < TRACKS; t++) {
            tracks[t] = new Track();
        }
    }

    public int place(int track, int sort, int weight) {
        boolean asTold = isTrack(track) && isWithin(sort, ENGINE, TANK) && isWithin(weight, 1, MOST_WEIGHT);
        if (!asTold || placed >= MOST_PLACED) {
            return OUTSIDE;
        }
        placed++;
        tracks[track].putAhead(new Vehicle(sort, weight));
        return tracks[track].size;
    }

    public int take(int track) {
        if (!isTrack(track)) {
            return OUTSIDE;
        }
        Vehicle gone = tracks[track].removeFront();
        return gone == null ? tell(NOTHING) : gone.fullWeight();
    }

    public int shunt(int from, int n, int to) {
        if (!areTwoTracks(from, to) || !isWithin(n, 1, MOST_SHUNTED)) {
            return OUTSIDE;
        }
        return tracks[from].moveFirst(n, tracks[to]) ? n : tell(NOTHING);
    }

    public int couple(int track, int other) {
        if (!areTwoTracks(track, other)) {
            return OUTSIDE;
        }
        return tracks[track].appendAll(tracks[other]) ? tracks[track].size : tell(NOTHING);
    }

    public int crates(int track, int k, int n) {
        if (!isPosition(track, k) || n > MOST_IN_ROW) {
            return OUTSIDE;
        }
        Vehicle wagon = tracks[track].vehicleAt(k);
        if (isEngine(wagon)) {
            return tell(KIND);
        }
        if (n < 0) {
            return tell(SIZE);
        }
        if (wagon == null) {
            return tell(NOTHING);
        }
        wagon.row = new int[n];
        return n;
    }

    public int load(int track, int k, int i, int v) {
        if (!isPosition(track, k) || !isWithin(v, 0, MOST_NUMBER)) {
            return OUTSIDE;
        }
        Vehicle wagon = tracks[track].vehicleAt(k);
        int reason = whyNoCrate(wagon, i);
        if (reason != 0) {
            return tell(reason);
        }
        wagon.row[i] = v;
        return v;
    }

    public int crate(int track, int k, int i) {
        if (!isPosition(track, k)) {
            return OUTSIDE;
        }
        Vehicle wagon = tracks[track].vehicleAt(k);
        int reason = whyNoCrate(wagon, i);
        return reason != 0 ? tell(reason) : wagon.row[i];
    }

    public int length(int track, int k) {
        if (!isPosition(track, k)) {
            return OUTSIDE;
        }
        Vehicle wagon = tracks[track].vehicleAt(k);
        int reason = whyNoRow(wagon);
        return reason != 0 ? tell(reason) : wagon.row.length;
    }

    public int weigh(int track, int k) {
        if (!isPosition(track, k)) {
            return OUTSIDE;
        }
        Vehicle vehicle = tracks[track].vehicleAt(k);
        return vehicle == null ? tell(NOTHING) : vehicle.fullWeight();
    }

    public int defect(int track, int k, int level) {
        if (!isPosition(track, k) || !isWithin(level, 0, MOST_NUMBER)) {
            return OUTSIDE;
        }
        Vehicle vehicle = tracks[track].vehicleAt(k);
        if (vehicle == null) {
            return tell(NOTHING);
        }
        vehicle.defectLevel = level;
        return level;
    }

    public int report(int track, int k) {
        if (!isPosition(track, k)) {
            return OUTSIDE;
        }
        Vehicle vehicle = tracks[track].vehicleAt(k);
        if (vehicle == null || vehicle.defectLevel == 0) {
            return tell(NOTHING);
        }
        return tellLevel(DEFECT, vehicle.defectLevel);
    }

    public int draw(int track) {
        if (!isTrack(track)) {
            return OUTSIDE;
        }
        Vehicle engine = tracks[track].front;
        if (engine == null) {
            return tell(NOTHING);
        }
        if (!isEngine(engine)) {
            return tell(KIND);
        }
        Vehicle broken = tracks[track].firstGraveBehindFront();
        if (broken != null) {
            return tellLevel(DEFECT, broken.defectLevel);
        }
        int drawn = tracks[track].weightBehindFront();
        int tooHeavy = drawn - PULL_PER_WEIGHT * engine.weight;
        return tooHeavy > 0 ? tellLevel(STALLED, tooHeavy) : drawn;
    }

    public int level() {
        return latestLevel;
    }

    public int siding(int n, boolean tanks) {
        if (n > MOST_IN_ROW) {
            return OUTSIDE;
        }
        if (n < 0) {
            return tell(SIZE);
        }
        yardSiding = new Siding(n, tanks);
        return n;
    }

    public int room() {
        return yardSiding == null ? tell(NOTHING) : yardSiding.places.length;
    }

    public int stow(int place, int track) {
        if (!isTrack(track)) {
            return OUTSIDE;
        }
        Vehicle wagon = tracks[track].front;
        if (isEngine(wagon)) {
            return tell(KIND);
        }
        int reason = whyNoPlace(place);
        if (reason != 0) {
            return tell(reason);
        }
        if (wagon != null && !yardSiding.accepts(wagon)) {
            return tell(NARROW);
        }
        // An empty track still empties the place: the promise says so, ahead of its NOTHING.
        yardSiding.places[place] = tracks[track].removeFront();
        return wagon == null ? tell(NOTHING) : tracks[track].size;
    }

    public int fetch(int place, int track) {
        if (!isTrack(track)) {
            return OUTSIDE;
        }
        int reason = whyNoPlace(place);
        if (reason != 0) {
            return tell(reason);
        }
        Vehicle wagon = yardSiding.places[place];
        if (wagon == null) {
            return tell(NOTHING);
        }
        yardSiding.places[place] = null;
        tracks[track].putAhead(wagon);
        return tracks[track].size;
    }

    public int plan(int n, int m) {
        if (n > MOST_IN_ROW || m > MOST_IN_ROW) {
            return OUTSIDE;
        }
        if (n < 0 || m < 0) {
            return tell(SIZE);
        }
        yardPlan = new Plan(n, m);
        return n * m;
    }

    public int note(int i, int j, int v) {
        if (!isWithin(v, 0, MOST_NUMBER)) {
            return OUTSIDE;
        }
        int reason = whyNoNumber(i, j);
        if (reason != 0) {
            return tell(reason);
        }
        yardPlan.numbers[yardPlan.slot(i, j)] = v;
        return v;
    }

    public int noted(int i, int j) {
        int reason = whyNoNumber(i, j);
        return reason != 0 ? tell(reason) : yardPlan.numbers[yardPlan.slot(i, j)];
    }

    public int wide(int i) {
        int reason = whyNoPlanRow(i);
        return reason != 0 ? tell(reason) : yardPlan.width;
    }

    public int away(int what) {
        boolean was;
        if (what == 0) {
            was = yardSiding != null;
            yardSiding = null;
        } else if (what == 1) {
            was = yardPlan != null;
            yardPlan = null;
        } else {
            return OUTSIDE;
        }
        return was ? 1 : 0;
    }

    public int about(int track, int k, int what) {
        if (!isPosition(track, k) || !isWithin(what, 0, 3)) {
            return OUTSIDE;
        }
        Vehicle vehicle = tracks[track].vehicleAt(k);
        if (vehicle == null) {
            return 0;
        }
        switch (what) {
            case 0:
                return vehicle.sort;
            case 1:
                return vehicle.weight;
            case 2:
                return vehicle.defectLevel;
            default:
                return vehicle.row == null ? 0 : vehicle.row.length;
        }
    }

    public int count(int track) {
        return isTrack(track) ? tracks[track].size : OUTSIDE;
    }

    public int reasons(int reason) {
        return isWithin(reason, NOTHING, DEFECT) ? told[reason] : OUTSIDE;
    }

    private static boolean isWithin(int number, int least, int most) {
        return number >= least && number <= most;
    }

    private static boolean isTrack(int track) {
        return track >= 0 && track < TRACKS;
    }

    private static boolean areTwoTracks(int one, int other) {
        return isTrack(one) && isTrack(other) && one != other;
    }

    /** A k beyond the last vehicle is still a position: there is NOTHING there. */
    private static boolean isPosition(int track, int k) {
        return isTrack(track) && k >= 0;
    }

    private static boolean isEngine(Vehicle vehicle) {
        return vehicle != null && vehicle.sort == ENGINE;
    }

    private int tell(int reason) {
        told[reason]++;
        return -10 - reason;
    }

    private int tellLevel(int reason, int level) {
        latestLevel = level;
        return tell(reason);
    }

    /** Answers 0 where the wagon is one that has crates. */
    private static int whyNoRow(Vehicle wagon) {
        if (isEngine(wagon)) {
            return KIND;
        }
        return wagon == null || wagon.row == null ? NOTHING : 0;
    }

    /** Answers 0 where the wagon has a crate i. */
    private static int whyNoCrate(Vehicle wagon, int i) {
        int reason = whyNoRow(wagon);
        if (reason != 0) {
            return reason;
        }
        return i >= 0 && i < wagon.row.length ? 0 : PLACE;
    }

    /** Answers 0 where there is a siding that has the place. */
    private int whyNoPlace(int place) {
        if (yardSiding == null) {
            return NOTHING;
        }
        return place >= 0 && place < yardSiding.places.length ? 0 : PLACE;
    }

    /** Answers 0 where there is a plan that has row i. */
    private int whyNoPlanRow(int i) {
        if (yardPlan == null) {
            return NOTHING;
        }
        return i >= 0 && i < yardPlan.rows ? 0 : PLACE;
    }

    /** Answers 0 where there is a plan that has number j in row i. */
    private int whyNoNumber(int i, int j) {
        int reason = whyNoPlanRow(i);
        if (reason != 0) {
            return reason;
        }
        return j >= 0 && j < yardPlan.width ? 0 : PLACE;
    }

    private static final class Vehicle {
        final int sort;
        final int weight;
        /** 0 where there is no defect. */
        int defectLevel;
        /** The crates; null where there are none, which is not the same as 0 of them. */
        int[] row;
        Vehicle behind;

        Vehicle(int sort, int weight) {
            this.sort = sort;
            this.weight = weight;
        }

        int fullWeight() {
            int sum = weight;
            if (row != null) {
                for (int number : row) {
                    sum += number;
                }
            }
            return sum;
        }
    }

    private static final class Track {
        Vehicle front;
        int size;

        /** Answers null where there is no vehicle k. */
        Vehicle vehicleAt(int k) {
            if (k < 0 || k >= size) {
                return null;
            }
            Vehicle found = front;
            for (int i = 0; i < k && found != null; i++) {
                found = found.behind;
            }
            return found;
        }

        /** Answers null where no vehicle behind the front has a defect that stops the drawing. */
        Vehicle firstGraveBehindFront() {
            Vehicle v = vehicleAt(1);
            for (int k = 1; k < size && v != null; k++) {
                if (v.defectLevel >= GRAVE_LEVEL) {
                    return v;
                }
                v = v.behind;
            }
            return null;
        }

        int weightBehindFront() {
            int sum = 0;
            Vehicle v = vehicleAt(1);
            for (int k = 1; k < size && v != null; k++) {
                sum += v.fullWeight();
                v = v.behind;
            }
            return sum;
        }

        void putAhead(Vehicle vehicle) {
            vehicle.behind = front;
            front = vehicle;
            size++;
        }

        /** Answers null where the track is empty. */
        Vehicle removeFront() {
            Vehicle removed = front;
            if (removed != null) {
                front = removed.behind;
                removed.behind = null;
                size--;
            }
            return removed;
        }

        /** Answers false, and moves none, where there are fewer than n. */
        boolean moveFirst(int n, Track to) {
            Vehicle last = vehicleAt(n - 1);
            if (last == null) {
                return false;
            }
            Vehicle rest = last.behind;
            last.behind = to.front;
            to.front = front;
            to.size += n;
            front = rest;
            size -= n;
            return true;
        }

        /** Answers false, and moves none, where this track is empty. */
        boolean appendAll(Track other) {
            Vehicle last = vehicleAt(size - 1);
            if (last == null) {
                return false;
            }
            last.behind = other.front;
            size += other.size;
            other.front = null;
            other.size = 0;
            return true;
        }
    }

    private static final class Siding {
        final Vehicle[] places;
        final boolean tanksAlone;

        /** The caller has seen that n is 0 or more. */
        Siding(int n, boolean tanksAlone) {
            this.places = new Vehicle[n];
            this.tanksAlone = tanksAlone;
        }

        boolean accepts(Vehicle wagon) {
            return !tanksAlone || wagon.sort == TANK;
        }
    }

    private static final class Plan {
        final int rows;
        final int width;
        /** All rows one behind another. */
        final int[] numbers;

        /** The caller has seen that both are 0 to 12. */
        Plan(int rows, int width) {
            this.rows = rows;
            this.width = width;
            this.numbers = new int[rows * width];
        }

        int slot(int i, int j) {
            return i * width + j;
        }
    }
}
