import java.math.BigInteger;

/** A fraction in lowest terms with a denominator above 0. */
final class Fraction {
    final BigInteger numerator;
    final BigInteger denominator;

    Fraction(BigInteger numerator, BigInteger denominator) {
        BigInteger divisor = numerator.gcd(denominator);
        this.numerator = numerator.divide(divisor);
        this.denominator = denominator.divide(divisor);
    }

    static Fraction of(long numerator, long denominator) {
        return new Fraction(BigInteger.valueOf(numerator), BigInteger.valueOf(denominator));
    }

    Fraction plus(Fraction other) {
        return new Fraction(
                numerator.multiply(other.denominator).add(other.numerator.multiply(denominator)),
                denominator.multiply(other.denominator));
    }

    Fraction times(Fraction other) {
        return new Fraction(numerator.multiply(other.numerator), denominator.multiply(other.denominator));
    }

    boolean isGreaterThan(Fraction other) {
        return numerator.multiply(other.denominator).compareTo(other.numerator.multiply(denominator)) > 0;
    }
}
