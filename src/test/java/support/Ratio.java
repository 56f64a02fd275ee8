import java.math.BigInteger;

/** A fraction of any size, in lowest terms, its denominator above 0. */
record Ratio(BigInteger over, BigInteger under) implements Comparable<Ratio> {
    Ratio {
        BigInteger divisor = over.gcd(under);
        if (under.signum() < 0) {
            divisor = divisor.negate();
        }
        over = over.divide(divisor);
        under = under.divide(divisor);
    }

    static Ratio of(long over, long under) {
        return new Ratio(BigInteger.valueOf(over), BigInteger.valueOf(under));
    }

    static Ratio of(long whole) {
        return of(whole, 1);
    }

    Ratio plus(Ratio other) {
        return new Ratio(over.multiply(other.under).add(other.over.multiply(under)), under.multiply(other.under));
    }

    Ratio times(Ratio other) {
        return new Ratio(over.multiply(other.over), under.multiply(other.under));
    }

    Ratio negated() {
        return new Ratio(over.negate(), under);
    }

    Ratio minus(Ratio other) {
        return plus(other.negated());
    }

    boolean isFrom(Ratio least, Ratio most) {
        return compareTo(least) >= 0 && compareTo(most) <= 0;
    }

    @Override
    public int compareTo(Ratio other) {
        return over.multiply(other.under).compareTo(other.over.multiply(under));
    }
}
