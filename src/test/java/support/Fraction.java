import java.math.BigInteger;

/** An exact fraction in lowest terms with a positive number below. */
final class Fraction implements Comparable<Fraction> {
    final BigInteger above;
    final BigInteger below;

    private Fraction(BigInteger above, BigInteger below) {
        BigInteger divisor = above.gcd(below);
        this.above = above.divide(divisor);
        this.below = below.divide(divisor);
    }

    static Fraction of(long above, long below) {
        return new Fraction(BigInteger.valueOf(above), BigInteger.valueOf(below));
    }

    static Fraction of(long number) {
        return of(number, 1);
    }

    Fraction plus(Fraction other) {
        return new Fraction(above.multiply(other.below).add(other.above.multiply(below)),
                below.multiply(other.below));
    }

    Fraction minus(Fraction other) {
        return plus(other.times(of(-1)));
    }

    Fraction times(Fraction other) {
        return new Fraction(above.multiply(other.above), below.multiply(other.below));
    }

    long part(int part) {
        return (part == 0 ? above : below).longValueExact();
    }

    @Override
    public int compareTo(Fraction other) {
        return above.multiply(other.below).compareTo(other.above.multiply(below));
    }
}
