/** Numbers that look random and are the same in every run. */
final class Numbers {
    private long seed;

    Numbers(long seed) {
        this.seed = seed;
    }

    long next() {
        seed += 0x9E3779B97F4A7C15L;
        long z = (seed ^ (seed >>> 30)) * 0xBF58476D1CE4E5B9L;
        z = (z ^ (z >>> 27)) * 0x94D049BB133111EBL;
        return z ^ (z >>> 31);
    }

    int below(int bound) {
        return (int) Long.remainderUnsigned(next(), bound);
    }

    /** Bits of a finite double; of manners 1 to 6 such that sums meet ties, carries and edges often. */
    long realBits(int manner) {
        long sign = next() & Long.MIN_VALUE;
        long fraction = next() & ((1L << 52) - 1);
        switch (manner) {
            case 1:
                return sign | (1000L + below(60)) << 52 | (fraction >>> 48 << 48);
            case 2:
                return sign | (long) below(4) << 52 | fraction;
            case 3:
                return sign | (2040L + below(7)) << 52 | fraction;
            case 4:
                return sign | (1000L + below(110)) << 52 | (below(2) == 0 ? 0 : (1L << 52) - 1);
            case 5:
                return sign | (1023L + below(2) * 53) << 52 | (long) below(4);
            case 6:
                return (1990L + below(57)) << 52 | (below(2) == 0 ? 0 : (1L << 52) - 1) ^ (long) below(2);
            default:
                return sign | (long) below(2047) << 52 | fraction;
        }
    }
}
