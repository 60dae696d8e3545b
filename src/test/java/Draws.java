import java.math.BigInteger;

/** The draw by numbers without bounds. */
final class Draws {
    private Draws() {
    }

    static int behind(int draw) {
        BigInteger bits = BigInteger.ONE.shiftLeft(31);
        return BigInteger.valueOf(draw).multiply(BigInteger.valueOf(1103515245)).add(BigInteger.valueOf(12345)).mod(bits).intValueExact();
    }

    /** The least seed whose next draw, by 65536, leaves so much over by 12. */
    static int leavingOver(int rest) {
        int seed = 0;
        while (behind(seed) / 65536 % 12 != rest) {
            seed++;
        }
        return seed;
    }
}
