import java.util.Random;

/** No call throws or fails to end, for any numbers, also far beyond the 512th. */
public final class EnduranceTest {
    private static final int[] EDGES = {
        Integer.MIN_VALUE, Integer.MIN_VALUE + 1, -13, -2, -1, 0, 1, 2, 3, 4, 5, 6, 7, 8,
        11, 12, 13, 49, 50, 98, 99, 100, 511, 512, 513, 1000, 1001, Integer.MAX_VALUE - 1, Integer.MAX_VALUE
    };
    private static final int CALLS = 200_000;
    private static final Due DUE = new Due("EnduranceTest");

    private final Random random;
    private final TankSidings x = new TankSidings();

    private EnduranceTest(int seed) {
        random = new Random(seed);
    }

    private int any() {
        int pick = random.nextInt(10);
        if (pick < 6) {
            return random.nextInt(7);
        }
        return pick < 9 ? EDGES[random.nextInt(EDGES.length)] : random.nextInt();
    }

    private int call() {
        return switch (random.nextInt(27)) {
            case 0, 1 -> x.place(any(), any(), any());
            case 2 -> x.take(any());
            case 3 -> x.shunt(any(), any(), any());
            case 4 -> x.couple(any(), any());
            case 5 -> x.crates(any(), any(), any());
            case 6 -> x.load(any(), any(), any(), any());
            case 7 -> x.crate(any(), any(), any());
            case 8 -> x.length(any(), any());
            case 9 -> x.weigh(any(), any());
            case 10 -> x.defect(any(), any(), any());
            case 11 -> x.report(any(), any());
            case 12 -> x.draw(any());
            case 13 -> x.level();
            case 14 -> x.siding(any(), random.nextBoolean());
            case 15 -> x.room();
            case 16 -> x.stow(any(), any());
            case 17 -> x.fetch(any(), any());
            case 18 -> x.plan(any(), any());
            case 19 -> x.note(any(), any(), any());
            case 20 -> x.noted(any(), any());
            case 21 -> x.wide(any());
            case 22 -> x.away(any());
            case 23 -> x.about(any(), any(), any());
            case 24 -> x.count(any());
            default -> x.reasons(any());
        };
    }

    private static boolean isAnAnswer(int answer) {
        return answer >= -1 || answer <= Due.NOTHING && answer >= Due.DEFECT;
    }

    private static void placeStopsAfterTheLastPromisedCall() {
        TankSidings x = new TankSidings();
        for (int n = 0; n < 5000; n++) {
            x.place(0, Due.WAGON, 1000);
        }
        DUE.is("no more than 512 are kept", 512, x.count(0));
    }

    public static void main(String[] args) {
        for (int seed = 0; seed < 20; seed++) {
            EnduranceTest test = new EnduranceTest(seed);
            for (int n = 0; n < CALLS; n++) {
                int answer = test.call();
                DUE.is("call " + n + " of seed " + seed + ": " + answer, 1, isAnAnswer(answer) ? 1 : 0);
            }
        }
        placeStopsAfterTheLastPromisedCall();
        DUE.end();
    }
}
