import java.math.BigInteger;

/** The document's arithmetic, written over again digit by digit and without shifts or masks. */
final class NumberModel {
    private static final BigInteger SIXTEEN = BigInteger.valueOf(16);
    private static final BigInteger GUARDED_ONE = BigInteger.TWO.pow(28);
    private static final BigInteger GUARDED_NORMAL = BigInteger.TWO.pow(24);
    private static final BigInteger NORMAL = BigInteger.TWO.pow(20);

    final int result;
    final int raised;

    private NumberModel(int result, int raised) {
        this.result = result;
        this.raised = raised;
    }

    static NumberModel of(int how, int a, int b) {
        switch (how) {
            case 0:
                return sum(a, b);
            case 1:
                return sum(a, otherSign(b));
            case 2:
                return product(a, b);
            case 3:
                return quotient(a, b);
            default:
                return new NumberModel(new int[] {1, 0, 2}[total(a, otherSign(b)).signum() + 1], 0);
        }
    }

    private static boolean isBelow(int x) {
        return x < 0;
    }

    private static long unsigned(int x) {
        return Integer.toUnsignedLong(x);
    }

    private static int otherSign(int x) {
        return (int) ((unsigned(x) + 2147483648L) % 4294967296L);
    }

    private static int characteristic(int x) {
        return (int) (unsigned(x) / 16777216L % 128L);
    }

    private static BigInteger fraction(int x) {
        return BigInteger.valueOf(unsigned(x) % 16777216L);
    }

    private static BigInteger signed(int x, BigInteger size) {
        return isBelow(x) ? size.negate() : size;
    }

    /** The signed sum, before it is finished, with the greater characteristic. */
    private static BigInteger total(int a, int b) {
        int d = characteristic(a) - characteristic(b);
        BigInteger fa = fraction(a).multiply(SIXTEEN);
        BigInteger fb = fraction(b).multiply(SIXTEEN);
        if (d < 0) {
            fa = -d > 7 ? BigInteger.ZERO : fa.divide(SIXTEEN.pow(-d));
        } else {
            fb = d > 7 ? BigInteger.ZERO : fb.divide(SIXTEEN.pow(d));
        }
        return signed(a, fa).add(signed(b, fb));
    }

    private static NumberModel sum(int a, int b) {
        BigInteger total = total(a, b);
        int c = Math.max(characteristic(a), characteristic(b));
        BigInteger size = total.abs();
        if (size.compareTo(GUARDED_ONE) >= 0) {
            size = size.divide(SIXTEEN);
            c++;
        }
        return finished(total.signum() < 0, c, size);
    }

    private static NumberModel product(int a, int b) {
        BigInteger fa = fraction(a);
        BigInteger fb = fraction(b);
        if (fa.signum() == 0 || fb.signum() == 0) {
            return new NumberModel(0, 0);
        }
        int c = characteristic(a) + characteristic(b) - 64;
        while (fa.compareTo(NORMAL) < 0) {
            fa = fa.multiply(SIXTEEN);
            c--;
        }
        while (fb.compareTo(NORMAL) < 0) {
            fb = fb.multiply(SIXTEEN);
            c--;
        }
        return finished(isBelow(a) != isBelow(b), c, fa.multiply(fb).divide(NORMAL));
    }

    private static NumberModel quotient(int a, int b) {
        BigInteger fa = fraction(a);
        BigInteger fb = fraction(b);
        if (fb.signum() == 0) {
            return new NumberModel(a, 4);
        }
        if (fa.signum() == 0) {
            return new NumberModel(0, 0);
        }
        int c = characteristic(a) - characteristic(b) + 65;
        while (fa.compareTo(NORMAL) < 0) {
            fa = fa.multiply(SIXTEEN);
            c--;
        }
        while (fb.compareTo(NORMAL) < 0) {
            fb = fb.multiply(SIXTEEN);
            c++;
        }
        return finished(isBelow(a) != isBelow(b), c, fa.multiply(GUARDED_NORMAL).divide(fb));
    }

    private static NumberModel finished(boolean below, int c, BigInteger f) {
        if (f.signum() == 0) {
            return new NumberModel(0, 0);
        }
        while (f.compareTo(GUARDED_NORMAL) < 0) {
            f = f.multiply(SIXTEEN);
            c--;
        }
        long kept = f.divide(SIXTEEN).longValueExact();
        if (c < 0) {
            return new NumberModel(0, 2);
        }
        int raised = c > 127 ? 1 : 0;
        long whole = (c - 128L * raised) * 16777216L + kept + (below ? 2147483648L : 0);
        return new NumberModel((int) whole, raised);
    }
}
