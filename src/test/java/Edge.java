import java.util.stream.IntStream;

/** Numbers on the other side of a bound: next to it, far from it, and those that a narrower type would wrap into it. */
final class Edge {
    private Edge() {
    }

    static int[] below(int least) {
        return new int[] {least - 1, -256 + least, -65536 + least, Integer.MIN_VALUE + 1, Integer.MIN_VALUE};
    }

    static int[] above(int most) {
        return IntStream.of(most + 1, 256, 65536, Integer.MAX_VALUE - 1, Integer.MAX_VALUE)
            .filter(n -> n > most).toArray();
    }

    static int[] outside(int least, int most) {
        return IntStream.concat(IntStream.of(below(least)), IntStream.of(above(most))).toArray();
    }
}
