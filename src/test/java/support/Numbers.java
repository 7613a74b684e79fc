import java.math.BigInteger;

/** The document's numbers modulo 100, drawn from a seed on. */
final class Numbers {
    private static final BigInteger TIMES = BigInteger.valueOf(1103515245);
    private static final BigInteger MORE = BigInteger.valueOf(12345);
    private static final BigInteger BITS = BigInteger.ONE.shiftLeft(31);

    private BigInteger last;

    Numbers(long seed) {
        last = BigInteger.valueOf(seed);
    }

    int next() {
        last = last.multiply(TIMES).add(MORE).mod(BITS);
        return last.intValueExact() / 65536 % 100;
    }

    /** What is heard of a knock whose beats all have one E within 1 .. 99. */
    int heard(int knock, int shake) {
        int heard = 0;
        for (int digit = 100000; digit > 0; digit /= 10) {
            int beat = knock / digit % 10;
            heard = heard * 10 + beat + (shake > next() ? 1 : 0);
        }
        return heard;
    }
}
