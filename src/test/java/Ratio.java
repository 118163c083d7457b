import java.math.BigInteger;

/** A fraction in least terms, the lower number above 0. */
final class Ratio implements Comparable<Ratio> {
    static final Ratio ZERO = new Ratio(BigInteger.ZERO, BigInteger.ONE);

    final BigInteger upper;
    final BigInteger lower;

    Ratio(BigInteger a, BigInteger b) {
        BigInteger g = b.signum() < 0 ? a.gcd(b).negate() : a.gcd(b);
        upper = a.divide(g);
        lower = b.divide(g);
    }

    static Ratio of(long v) {
        return new Ratio(BigInteger.valueOf(v), BigInteger.ONE);
    }

    Ratio plus(Ratio o) {
        return new Ratio(upper.multiply(o.lower).add(o.upper.multiply(lower)), lower.multiply(o.lower));
    }

    Ratio less(Ratio o) {
        return plus(new Ratio(o.upper.negate(), o.lower));
    }

    Ratio times(Ratio o) {
        return new Ratio(upper.multiply(o.upper), lower.multiply(o.lower));
    }

    Ratio over(Ratio o) {
        return new Ratio(upper.multiply(o.lower), lower.multiply(o.upper));
    }

    Ratio size() {
        return new Ratio(upper.abs(), lower);
    }

    boolean isZero() {
        return upper.signum() == 0;
    }

    long part(int what) {
        return (what == 0 ? upper : lower).longValueExact();
    }

    @Override
    public int compareTo(Ratio o) {
        return upper.multiply(o.lower).compareTo(o.upper.multiply(lower));
    }
}
