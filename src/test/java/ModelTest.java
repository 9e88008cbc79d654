import java.util.ArrayList;
import java.util.List;
import java.util.Random;

/** Fixed runs of 512 calls, each answer against a second, plain model of the document. */
public final class ModelTest {
    private static final int RUNS = 3000;
    private static final int CALLS = 512;
    private static final Due DUE = new Due("ModelTest");

    private static final class Car {
        int sort;
        int weight;
        int level;
        List<Integer> crates;

        int load() {
            return weight + (crates == null ? 0 : crates.stream().mapToInt(Integer::intValue).sum());
        }
    }

    /** The document's words, with lists; the order of the tests is the order in which a promise names its reasons. */
    private static final class Model {
        final List<List<Car>> tracks = new ArrayList<>();
        List<Car> siding;
        boolean tanksAlone;
        List<List<Integer>> plan;
        int level;
        final int[] told = new int[8];

        Model() {
            for (int t = 0; t < 6; t++) {
                tracks.add(new ArrayList<>());
            }
        }

        boolean off(int track) {
            return track < 0 || track > 5;
        }

        int tell(int answer) {
            told[-10 - answer]++;
            return answer;
        }

        Car at(int track, int k) {
            List<Car> cars = tracks.get(track);
            return k < cars.size() ? cars.get(k) : null;
        }

        static List<Integer> zeros(int n) {
            List<Integer> row = new ArrayList<>();
            for (int i = 0; i < n; i++) {
                row.add(0);
            }
            return row;
        }

        int place(int track, int sort, int weight) {
            if (off(track) || sort < 1 || sort > 3 || weight < 1 || weight > 1000) {
                return Due.OUTSIDE;
            }
            Car car = new Car();
            car.sort = sort;
            car.weight = weight;
            tracks.get(track).add(0, car);
            return tracks.get(track).size();
        }

        int take(int track) {
            if (off(track)) {
                return Due.OUTSIDE;
            }
            return tracks.get(track).isEmpty() ? tell(Due.NOTHING) : tracks.get(track).remove(0).load();
        }

        int shunt(int from, int n, int to) {
            if (off(from) || off(to) || from == to || n < 1 || n > 99) {
                return Due.OUTSIDE;
            }
            if (tracks.get(from).size() < n) {
                return tell(Due.NOTHING);
            }
            List<Car> moved = tracks.get(from).subList(0, n);
            tracks.get(to).addAll(0, moved);
            moved.clear();
            return n;
        }

        int couple(int track, int other) {
            if (off(track) || off(other) || track == other) {
                return Due.OUTSIDE;
            }
            if (tracks.get(track).isEmpty()) {
                return tell(Due.NOTHING);
            }
            tracks.get(track).addAll(tracks.get(other));
            tracks.get(other).clear();
            return tracks.get(track).size();
        }

        int crates(int track, int k, int n) {
            if (off(track) || k < 0 || n > 12) {
                return Due.OUTSIDE;
            }
            Car car = at(track, k);
            if (car != null && car.sort == Due.ENGINE) {
                return tell(Due.KIND);
            }
            if (n < 0) {
                return tell(Due.SIZE);
            }
            if (car == null) {
                return tell(Due.NOTHING);
            }
            car.crates = zeros(n);
            return n;
        }

        int load(int track, int k, int i, int v) {
            if (off(track) || k < 0 || v < 0 || v > 99) {
                return Due.OUTSIDE;
            }
            int answer = crate(track, k, i);
            if (answer < 0) {
                return answer;
            }
            at(track, k).crates.set(i, v);
            return v;
        }

        int crate(int track, int k, int i) {
            int answer = length(track, k);
            if (answer < 0) {
                return answer;
            }
            return i < 0 || i >= answer ? tell(Due.PLACE) : at(track, k).crates.get(i);
        }

        int length(int track, int k) {
            if (off(track) || k < 0) {
                return Due.OUTSIDE;
            }
            Car car = at(track, k);
            if (car != null && car.sort == Due.ENGINE) {
                return tell(Due.KIND);
            }
            return car == null || car.crates == null ? tell(Due.NOTHING) : car.crates.size();
        }

        int weigh(int track, int k) {
            if (off(track) || k < 0) {
                return Due.OUTSIDE;
            }
            return at(track, k) == null ? tell(Due.NOTHING) : at(track, k).load();
        }

        int defect(int track, int k, int newLevel) {
            if (off(track) || k < 0 || newLevel < 0 || newLevel > 99) {
                return Due.OUTSIDE;
            }
            if (at(track, k) == null) {
                return tell(Due.NOTHING);
            }
            at(track, k).level = newLevel;
            return newLevel;
        }

        int report(int track, int k) {
            if (off(track) || k < 0) {
                return Due.OUTSIDE;
            }
            if (at(track, k) == null || at(track, k).level == 0) {
                return tell(Due.NOTHING);
            }
            level = at(track, k).level;
            return tell(Due.DEFECT);
        }

        int draw(int track) {
            if (off(track)) {
                return Due.OUTSIDE;
            }
            Car engine = at(track, 0);
            if (engine == null || engine.sort != Due.ENGINE) {
                return tell(engine == null ? Due.NOTHING : Due.KIND);
            }
            int sum = -engine.load();
            for (Car car : tracks.get(track)) {
                if (car != engine && car.level > 49) {
                    level = car.level;
                    return tell(Due.DEFECT);
                }
                sum += car.load();
            }
            if (sum <= 10 * engine.weight) {
                return sum;
            }
            level = sum - 10 * engine.weight;
            return tell(Due.STALLED);
        }

        int siding(int n, boolean tanks) {
            if (n > 12) {
                return Due.OUTSIDE;
            }
            if (n < 0) {
                return tell(Due.SIZE);
            }
            tanksAlone = tanks;
            siding = new ArrayList<>();
            while (siding.size() < n) {
                siding.add(null);
            }
            return n;
        }

        int room() {
            return siding == null ? tell(Due.NOTHING) : siding.size();
        }

        int stow(int place, int track) {
            if (off(track)) {
                return Due.OUTSIDE;
            }
            Car car = at(track, 0);
            if (car != null && car.sort == Due.ENGINE) {
                return tell(Due.KIND);
            }
            if (siding == null) {
                return tell(Due.NOTHING);
            }
            if (place < 0 || place >= siding.size()) {
                return tell(Due.PLACE);
            }
            if (car != null && tanksAlone && car.sort == Due.WAGON) {
                return tell(Due.NARROW);
            }
            siding.set(place, car);
            if (car == null) {
                return tell(Due.NOTHING);
            }
            tracks.get(track).remove(0);
            return tracks.get(track).size();
        }

        int fetch(int place, int track) {
            if (off(track)) {
                return Due.OUTSIDE;
            }
            if (siding == null) {
                return tell(Due.NOTHING);
            }
            if (place < 0 || place >= siding.size()) {
                return tell(Due.PLACE);
            }
            Car car = siding.set(place, null);
            if (car == null) {
                return tell(Due.NOTHING);
            }
            tracks.get(track).add(0, car);
            return tracks.get(track).size();
        }

        int plan(int n, int m) {
            if (n > 12 || m > 12) {
                return Due.OUTSIDE;
            }
            if (n < 0 || m < 0) {
                return tell(Due.SIZE);
            }
            plan = new ArrayList<>();
            while (plan.size() < n) {
                plan.add(zeros(m));
            }
            return n * m;
        }

        int note(int i, int j, int v) {
            if (v < 0 || v > 99) {
                return Due.OUTSIDE;
            }
            int answer = noted(i, j);
            if (answer < 0) {
                return answer;
            }
            plan.get(i).set(j, v);
            return v;
        }

        int noted(int i, int j) {
            int answer = wide(i);
            if (answer < 0) {
                return answer;
            }
            return j < 0 || j >= answer ? tell(Due.PLACE) : plan.get(i).get(j);
        }

        int wide(int i) {
            if (plan == null) {
                return tell(Due.NOTHING);
            }
            return i < 0 || i >= plan.size() ? tell(Due.PLACE) : plan.get(i).size();
        }

        int away(int what) {
            if (what < 0 || what > 1) {
                return Due.OUTSIDE;
            }
            boolean was = what == 0 ? siding != null : plan != null;
            siding = what == 0 ? null : siding;
            plan = what == 1 ? null : plan;
            return was ? 1 : 0;
        }

        int about(int track, int k, int what) {
            if (off(track) || k < 0 || what < 0 || what > 3) {
                return Due.OUTSIDE;
            }
            Car car = at(track, k);
            if (car == null) {
                return 0;
            }
            int crates = car.crates == null ? 0 : car.crates.size();
            return new int[] {car.sort, car.weight, car.level, crates}[what];
        }

        int count(int track) {
            return off(track) ? Due.OUTSIDE : tracks.get(track).size();
        }

        int reasons(int reason) {
            return reason < 1 || reason > 7 ? Due.OUTSIDE : told[reason];
        }
    }

    private final Random random;
    /** How many tracks a run uses: with few of them its calls meet each other more often. */
    private final int busyTracks;
    private final Model due = new Model();
    private final TankSidings got = new TankSidings();
    private String call;

    private ModelTest(int run) {
        random = new Random(run);
        busyTracks = 1 + run % 6;
    }

    /** Mostly a number from least to most, now and then one near or far outside. */
    private int some(int least, int most) {
        int pick = random.nextInt(40);
        if (pick == 0) {
            return least - 1;
        }
        if (pick == 1) {
            return most + 1;
        }
        if (pick == 2) {
            return random.nextInt();
        }
        if (pick == 3) {
            return random.nextBoolean() ? least : most;
        }
        return least + random.nextInt(most - least + 1);
    }

    private int track() {
        return some(0, busyTracks - 1);
    }

    private int position() {
        return some(0, random.nextInt(4) == 0 ? 20 : 3);
    }

    private void ask(String name, int dueAnswer, int gotAnswer) {
        DUE.is(call + " " + name, dueAnswer, gotAnswer);
    }

    private void step(int a, int b, int k, int i, int v) {
        int weight = some(1, random.nextInt(3) == 0 ? 1000 : 40);
        int n = some(0, 12);
        switch (random.nextInt(33)) {
            case 0, 1, 2, 3, 4 -> {
                int sort = some(1, 3);
                ask("place", due.place(a, sort, weight), got.place(a, sort, weight));
            }
            case 5 -> ask("take", due.take(a), got.take(a));
            case 6 -> {
                int first = some(1, random.nextInt(9) == 0 ? 99 : 4);
                ask("shunt", due.shunt(a, first, b), got.shunt(a, first, b));
            }
            case 7 -> ask("couple", due.couple(a, b), got.couple(a, b));
            case 8, 9 -> ask("crates", due.crates(a, k, n), got.crates(a, k, n));
            case 10, 11 -> ask("load", due.load(a, k, i, v), got.load(a, k, i, v));
            case 12 -> ask("crate", due.crate(a, k, i), got.crate(a, k, i));
            case 13 -> ask("length", due.length(a, k), got.length(a, k));
            case 14 -> ask("weigh", due.weigh(a, k), got.weigh(a, k));
            case 15 -> ask("defect", due.defect(a, k, v), got.defect(a, k, v));
            case 16 -> ask("report", due.report(a, k), got.report(a, k));
            case 17, 18 -> ask("draw", due.draw(a), got.draw(a));
            case 19 -> ask("level", due.level, got.level());
            case 20 -> {
                boolean tanks = random.nextBoolean();
                ask("siding", due.siding(n, tanks), got.siding(n, tanks));
            }
            case 21 -> ask("room", due.room(), got.room());
            case 22, 23 -> ask("stow", due.stow(k, a), got.stow(k, a));
            case 24 -> ask("fetch", due.fetch(k, a), got.fetch(k, a));
            case 25 -> {
                int m = some(0, 12);
                ask("plan", due.plan(n, m), got.plan(n, m));
            }
            case 26 -> ask("note", due.note(k, i, v), got.note(k, i, v));
            case 27 -> ask("noted", due.noted(k, i), got.noted(k, i));
            case 28 -> ask("wide", due.wide(i), got.wide(i));
            case 29 -> {
                int what = random.nextInt(8) == 0 ? some(0, 1) : 2;
                ask("away", due.away(what), got.away(what));
            }
            case 30 -> {
                int what = some(0, 3);
                ask("about", due.about(a, k, what), got.about(a, k, what));
            }
            case 31 -> ask("count", due.count(a), got.count(a));
            default -> {
                int reason = some(1, 7);
                ask("reasons", due.reasons(reason), got.reasons(reason));
            }
        }
    }

    public static void main(String[] args) {
        for (int run = 0; run < RUNS; run++) {
            ModelTest test = new ModelTest(run);
            for (int step = 0; step < CALLS; step++) {
                test.call = "run " + run + ", step " + step + ":";
                test.step(test.track(), test.track(), test.position(), test.some(0, 5), test.some(0, 99));
            }
        }
        DUE.end();
    }
}
