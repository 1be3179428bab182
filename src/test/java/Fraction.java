import java.math.BigInteger;

/** An exact fraction of any size in lowest terms, for the model. */
final class Fraction implements Comparable<Fraction> {
    static final Fraction ZERO = of(0, 1);
    static final Fraction ONE = of(1, 1);

    final BigInteger numerator;
    final BigInteger denominator;

    Fraction(BigInteger numerator, BigInteger denominator) {
        BigInteger divisor = numerator.gcd(denominator);
        if (denominator.signum() < 0) {
            divisor = divisor.negate();
        }
        this.numerator = numerator.divide(divisor);
        this.denominator = denominator.divide(divisor);
    }

    static Fraction of(long numerator, long denominator) {
        return new Fraction(BigInteger.valueOf(numerator), BigInteger.valueOf(denominator));
    }

    Fraction plus(Fraction other) {
        return new Fraction(numerator.multiply(other.denominator).add(other.numerator.multiply(denominator)),
            denominator.multiply(other.denominator));
    }

    Fraction minus(Fraction other) {
        return plus(other.times(of(-1, 1)));
    }

    Fraction times(Fraction other) {
        return new Fraction(numerator.multiply(other.numerator), denominator.multiply(other.denominator));
    }

    Fraction by(Fraction other) {
        return new Fraction(numerator.multiply(other.denominator), denominator.multiply(other.numerator));
    }

    Fraction absolute() {
        return new Fraction(numerator.abs(), denominator);
    }

    int roundedDown() {
        BigInteger[] parts = numerator.divideAndRemainder(denominator);
        return parts[0].intValueExact() - (parts[1].signum() < 0 ? 1 : 0);
    }

    @Override
    public int compareTo(Fraction other) {
        return minus(other).numerator.signum();
    }
}
