import java.math.BigInteger;

/** Fractions without bounds, for the model. */
final class Fraction implements Comparable<Fraction> {
    static final Fraction ZERO = of(0);
    static final Fraction ONE = of(1);

    final BigInteger above;
    final BigInteger below;

    Fraction(BigInteger above, BigInteger below) {
        if (below.signum() == 0) {
            throw new IllegalArgumentException("below the line is 0");
        }
        BigInteger by = above.gcd(below);
        if (below.signum() < 0) {
            by = by.negate();
        }
        this.above = above.divide(by);
        this.below = below.divide(by);
    }

    static Fraction of(long n) {
        return new Fraction(BigInteger.valueOf(n), BigInteger.ONE);
    }

    static Fraction of(BigInteger n) {
        return new Fraction(n, BigInteger.ONE);
    }

    Fraction plus(Fraction o) {
        return new Fraction(above.multiply(o.below).add(o.above.multiply(below)), below.multiply(o.below));
    }

    Fraction minus(Fraction o) {
        return plus(new Fraction(o.above.negate(), o.below));
    }

    Fraction times(Fraction o) {
        return new Fraction(above.multiply(o.above), below.multiply(o.below));
    }

    Fraction by(Fraction o) {
        return new Fraction(above.multiply(o.below), below.multiply(o.above));
    }

    int sign() {
        return above.signum();
    }

    boolean is(Fraction o) {
        return above.equals(o.above) && below.equals(o.below);
    }

    @Override
    public int compareTo(Fraction o) {
        return above.multiply(o.below).compareTo(o.above.multiply(below));
    }
}
