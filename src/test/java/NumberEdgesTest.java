/** The edges of the numbers: for each sentence that names one, a test of its own, worked out by hand. */
public final class NumberEdgesTest {
    private static final int SUM = 0;
    private static final int DIFFERENCE = 1;
    private static final int PRODUCT = 2;
    private static final int QUOTIENT = 3;
    private static final int COMPARED = 4;
    private static final int OVERFLOW = 1;
    private static final int UNDERFLOW = 2;
    private static final int DIVIDE = 4;
    private static final int MINUS_ZERO = 0x80000000;

    private static final Check CHECK = new Check();
    private static final TagMachine MACHINE = new TagMachine(1, 1);

    public static void main(String[] args) {
        allIntsAreNumbers();
        normalFromTwoToTheTwentieth();
        divisionsRoundDown();
        fractionZeroIsZero();
        shiftedWhileBelowTwoToTheTwentyFourth();
        characteristicTooLarge();
        characteristicTooSmall();
        lesserIsShiftedByTheDifference();
        lesserIsNothingBeyondSeven();
        signIsThatOfTheSum();
        sumTooLarge();
        greaterCharacteristicGrows();
        differenceTurnsTheSign();
        comparedBeforeItIsFinished();
        comparedWithoutExceptions();
        productOfNothing();
        madeNormalAsOftenAsNeeded();
        characteristicMayFallBelowZero();
        signOfProductAndQuotient();
        quotientByNothing();
        quotientOfNothing();
        quotientStaysBelowTwoToTheTwentyEighth();
        CHECK.end();
    }

    private static void due(int how, int a, int b, int result, int raised) {
        String numbers = String.format("(%d, %08X, %08X)", how, a, b);
        CHECK.sameNumber("reckon" + numbers, MACHINE.reckon(how, a, b), result);
        CHECK.same("exceptions" + numbers, MACHINE.exceptions(how, a, b), raised);
    }

    /** The same with a and b in the other order. */
    private static void dueBothWays(int how, int a, int b, int result, int raised) {
        due(how, a, b, result, raised);
        due(how, b, a, result, raised);
    }

    private static void allIntsAreNumbers() {
        CHECK.sentence("All ints are numbers");
        int[] ints = {Integer.MIN_VALUE, Integer.MIN_VALUE + 1, -1, 0, 1, 0x00FFFFFF, 0x01000000, Integer.MAX_VALUE};
        for (int a : ints) {
            for (int b : ints) {
                for (int how = SUM; how <= COMPARED; how++) {
                    NumberModel model = NumberModel.of(how, a, b);
                    due(how, a, b, model.result, model.raised);
                }
            }
        }
    }

    private static void normalFromTwoToTheTwentieth() {
        CHECK.sentence("one is NORMAL when its F is at least 2^20");
        due(QUOTIENT, 0x41100000, 0x41100000, 0x41100000, 0);
        due(QUOTIENT, 0x410FFFFF, 0x41100000, 0x40FFFFF0, 0);
        due(QUOTIENT, 0x41100000, 0x410FFFFF, 0x41100001, 0);
        due(PRODUCT, 0x41100000, 0x41100000, 0x41100000, 0);
        due(PRODUCT, 0x410FFFFF, 0x410FFFFF, 0x40FFFFE0, 0);
        due(PRODUCT, 0x41000001, 0x41000001, 0x37100000, 0);
    }

    private static void divisionsRoundDown() {
        CHECK.sentence("All divisions below round down.");
        dueBothWays(SUM, 0x42100000, 0x4100000F, 0x42100000, 0);
        dueBothWays(SUM, 0x42100000, 0x410000FF, 0x4210000F, 0);
        dueBothWays(SUM, 0xC2100000, 0xC10000FF, 0xC210000F, 0);
        dueBothWays(SUM, 0x42000000, 0xC000001F, 0xBC100000, 0);
        due(SUM, 0x41FFFFFF, 0x4100001F, 0x42100001, 0);
        due(SUM, 0x41FFFFFF, 0x41000010, 0x42100000, 0);
        due(SUM, 0xC1FFFFFF, 0xC1000010, 0xC2100000, 0);
        due(PRODUCT, 0x41100001, 0x411FFFFF, 0x41200000, 0);
        due(PRODUCT, 0xC1100001, 0x411FFFFF, 0xC1200000, 0);
        due(QUOTIENT, Op.TWO, Op.THREE, 0x40AAAAAA, 0);
        due(QUOTIENT, 0xC1200000, Op.THREE, 0xC0AAAAAA, 0);
    }

    private static void fractionZeroIsZero() {
        CHECK.sentence("f 0: ZERO.");
        due(SUM, 0, 0, 0, 0);
        due(SUM, MINUS_ZERO, MINUS_ZERO, 0, 0);
        dueBothWays(SUM, 0, MINUS_ZERO, 0, 0);
        dueBothWays(SUM, 0x7FFFFFFF, 0xFFFFFFFF, 0, 0);
        dueBothWays(SUM, 0x7F000000, 0xFF000000, 0, 0);
        due(SUM, 0xFF000000, 0xFF000000, 0, 0);
        due(DIFFERENCE, 0x00000001, 0x00000001, 0, 0);
        due(DIFFERENCE, 0xFFFFFFFF, 0xFFFFFFFF, 0, 0);
    }

    private static void shiftedWhileBelowTwoToTheTwentyFourth() {
        CHECK.sentence("Else as long as f is below 2^24, f becomes 16 * f, and c falls by 1; then f is divided by 16.");
        due(SUM, 0x41100000, 0, 0x41100000, 0);
        due(SUM, 0x410FFFFF, 0, 0x40FFFFF0, 0);
        due(SUM, 0x410FFFFF, 0x4000000F, 0x40FFFFFF, 0);
        due(SUM, 0x410FFFFF, 0x40000010, 0x41100000, 0);
        due(SUM, 0x41000001, 0, 0x3C100000, 0);
        due(SUM, 0x41000000, 0x40000001, 0x3B100000, 0);
        due(SUM, 0xC1000000, 0xC000000F, 0xBBF00000, 0);
    }

    private static void characteristicTooLarge() {
        CHECK.sentence("c above 127: OVERFLOW, the number has c - 128");
        due(SUM, 0x7FF00000, 0x7F0FFFFF, 0x7FFFFFFF, 0);
        due(SUM, 0x7FF00000, 0x7F100000, 0x00100000, OVERFLOW);
        due(SUM, 0xFFF00000, 0xFF100000, 0x80100000, OVERFLOW);
        due(PRODUCT, 0x7F100000, 0x41F00000, 0x7FF00000, 0);
        due(PRODUCT, 0x7F400000, 0x41400000, 0x00100000, OVERFLOW);
        due(PRODUCT, 0x7FFFFFFF, 0x7FFFFFFF, 0x3EFFFFFE, OVERFLOW);
        due(QUOTIENT, 0x7F100000, 0x41100000, 0x7F100000, 0);
        due(QUOTIENT, 0x7F100000, 0x40100000, 0x00100000, OVERFLOW);
        due(QUOTIENT, 0x7FFFFFFF, 0x00000001, 0x45FFFFFF, OVERFLOW);
        due(QUOTIENT, 0xFFFFFFFF, 0x00000001, 0xC5FFFFFF, OVERFLOW);
    }

    private static void characteristicTooSmall() {
        CHECK.sentence("below 0: UNDERFLOW, ZERO; else the number of these.");
        due(SUM, 0x05000001, 0, 0x00100000, 0);
        due(SUM, 0x04000001, 0, 0, UNDERFLOW);
        due(SUM, 0x85000001, 0, 0x80100000, 0);
        due(SUM, 0x84000001, 0, 0, UNDERFLOW);
        due(DIFFERENCE, 0x00100000, 0, 0x00100000, 0);
        due(DIFFERENCE, 0x000FFFFF, 0, 0, UNDERFLOW);
        due(PRODUCT, 0x00100000, 0x41100000, 0x00100000, 0);
        due(PRODUCT, 0x00100000, 0x40100000, 0, UNDERFLOW);
        due(PRODUCT, 0x80000001, 0x00000001, 0, UNDERFLOW);
        due(QUOTIENT, 0x00100000, 0x41100000, 0x00100000, 0);
        due(QUOTIENT, 0x00100000, 0x42100000, 0, UNDERFLOW);
        due(QUOTIENT, 0x80000001, 0x7FFFFFFF, 0, UNDERFLOW);
    }

    private static void lesserIsShiftedByTheDifference() {
        CHECK.sentence("16 * F of the one with the lesser C is divided by 16^d");
        dueBothWays(SUM, 0x48100000, 0x48ABCDEF, 0x48BBCDEF, 0);
        dueBothWays(SUM, 0x48100000, 0x47ABCDEF, 0x481ABCDE, 0);
        dueBothWays(SUM, 0x48100000, 0x46ABCDEF, 0x4810ABCD, 0);
        dueBothWays(SUM, 0x48000000, 0x47ABCDEF, 0x47ABCDEF, 0);
        dueBothWays(SUM, 0x48000000, 0x46ABCDEF, 0x46ABCDE0, 0);
        dueBothWays(SUM, 0x48000000, 0x45ABCDEF, 0x45ABCD00, 0);
        dueBothWays(SUM, 0x48000000, 0x43ABCDEF, 0x43AB0000, 0);
        dueBothWays(SUM, 0x48000000, 0x42ABCDEF, 0x42A00000, 0);
    }

    private static void lesserIsNothingBeyondSeven() {
        CHECK.sentence("(0 if d is above 7)");
        dueBothWays(SUM, 0x48000000, 0x42FFFFFF, 0x42F00000, 0);
        dueBothWays(SUM, 0x48000000, 0x41FFFFFF, 0, 0);
        dueBothWays(SUM, 0x48000000, 0x40FFFFFF, 0, 0);
        dueBothWays(SUM, 0x50000000, 0x41FFFFFF, 0, 0);
        dueBothWays(SUM, 0x51000000, 0x41FFFFFF, 0, 0);
        dueBothWays(SUM, 0x61000000, 0x41FFFFFF, 0, 0);
        dueBothWays(SUM, 0x7F000000, 0x00FFFFFF, 0, 0);
        dueBothWays(SUM, 0x7F100000, 0x80FFFFFF, 0x7F100000, 0);
        dueBothWays(SUM, 0xFF100000, 0x00FFFFFF, 0xFF100000, 0);
    }

    private static void signIsThatOfTheSum() {
        CHECK.sentence("its sign is that of the sum");
        dueBothWays(SUM, 0x41100000, 0xC1100001, 0xBC100000, 0);
        dueBothWays(SUM, 0xC1100000, 0x41100001, 0x3C100000, 0);
        dueBothWays(SUM, 0xC2000000, 0x41100000, 0x41100000, 0);
        dueBothWays(SUM, 0x42000000, 0xC1100000, 0xC1100000, 0);
        dueBothWays(SUM, 0xC1100000, 0x41100000, 0, 0);
    }

    private static void sumTooLarge() {
        CHECK.sentence("if it is 2^28 or more without the sign, it is divided by 16");
        dueBothWays(SUM, 0x41FFFFFF, 0x4000000F, 0x41FFFFFF, 0);
        dueBothWays(SUM, 0x41FFFFFF, 0x40000010, 0x42100000, 0);
        dueBothWays(SUM, 0xC1FFFFFF, 0xC000000F, 0xC1FFFFFF, 0);
        dueBothWays(SUM, 0xC1FFFFFF, 0xC0000010, 0xC2100000, 0);
        due(SUM, 0x41FFFFFF, 0x41FFFFFF, 0x421FFFFF, 0);
        due(SUM, 0xC1FFFFFF, 0xC1FFFFFF, 0xC21FFFFF, 0);
        dueBothWays(SUM, 0xC1FFFFFF, 0x41FFFFFF, 0, 0);
    }

    private static void greaterCharacteristicGrows() {
        CHECK.sentence("and the greater C grows by 1; finished with that C.");
        dueBothWays(SUM, 0x41F00000, 0x40FFFFFF, 0x41FFFFFF, 0);
        dueBothWays(SUM, 0x41F80000, 0x40FFFFFF, 0x42107FFF, 0);
        dueBothWays(SUM, 0x7EFFFFFF, 0x7E000001, 0x7F100000, 0);
        dueBothWays(SUM, 0x7FFFFFFF, 0x7E000010, 0x00100000, OVERFLOW);
    }

    private static void differenceTurnsTheSign() {
        CHECK.sentence("DIFFERENCE: the sum of a and b with the other sign.");
        due(DIFFERENCE, 0, 0, 0, 0);
        due(DIFFERENCE, 0, MINUS_ZERO, 0, 0);
        due(DIFFERENCE, 0, Op.ONE, 0xC1100000, 0);
        due(DIFFERENCE, 0, 0xC1100000, Op.ONE, 0);
        due(DIFFERENCE, 0x7FFFFFFF, 0xFFFFFFFF, 0x001FFFFF, OVERFLOW);
        due(DIFFERENCE, 0xFFFFFFFF, 0x7FFFFFFF, 0x801FFFFF, OVERFLOW);
        due(DIFFERENCE, 0x00100001, 0x00100000, 0, UNDERFLOW);
    }

    private static void comparedBeforeItIsFinished() {
        CHECK.sentence("COMPARED: 0 if the difference's sum (before it is finished) is 0, 1 if below, 2 if above");
        due(COMPARED, 0x00100001, 0x00100000, 2, 0);
        due(COMPARED, 0x00100000, 0x00100001, 1, 0);
        due(COMPARED, 0x00000001, 0, 2, 0);
        due(COMPARED, 0x80000001, 0, 1, 0);
        due(COMPARED, MINUS_ZERO, 0, 0, 0);
        due(COMPARED, 0x7F000000, 0xFF000000, 0, 0);
        due(COMPARED, 0x47000000, 0x41100000, 1, 0);
        due(COMPARED, 0x47000000, 0x410FFFFF, 0, 0);
        due(COMPARED, 0x48000000, 0x41FFFFFF, 0, 0);
        due(COMPARED, 0x41100000, 0x42010000, 0, 0);
    }

    private static void comparedWithoutExceptions() {
        CHECK.sentence("no exceptions.");
        due(COMPARED, 0x7FFFFFFF, 0xFFFFFFFF, 2, 0);
        due(COMPARED, 0xFFFFFFFF, 0x7FFFFFFF, 1, 0);
        due(COMPARED, 0x00000002, 0x00000001, 2, 0);
        due(COMPARED, 0x41100000, 0x00000000, 2, 0);
        MACHINE.exceptions(QUOTIENT, 1, 0);
        CHECK.same("exceptions of a comparison behind a DIVIDE", MACHINE.exceptions(COMPARED, 1, 0), 0);
    }

    private static void productOfNothing() {
        CHECK.sentence("PRODUCT: ZERO if an F is 0");
        due(PRODUCT, 0, 0, 0, 0);
        due(PRODUCT, MINUS_ZERO, MINUS_ZERO, 0, 0);
        dueBothWays(PRODUCT, MINUS_ZERO, Op.ONE, 0, 0);
        dueBothWays(PRODUCT, 0x7F000000, 0x7FFFFFFF, 0, 0);
        dueBothWays(PRODUCT, 0x00000000, 0x00000001, 0, 0);
        dueBothWays(PRODUCT, 0xFF000000, 0xFFFFFFFF, 0, 0);
    }

    private static void madeNormalAsOftenAsNeeded() {
        CHECK.sentence("else both are made normal (F times 16 and C less 1, as often as is needed");
        int due = 0x41300000;
        int f = 0x100000;
        for (int times = 0; times <= 5; times++) {
            int one = 0x41 + times << 24 | f >> 4 * times;
            dueBothWays(PRODUCT, one, Op.THREE, due, 0);
            due(QUOTIENT, Op.THREE, one, due, 0);
            due(QUOTIENT, one, one, Op.ONE, 0);
        }
    }

    private static void characteristicMayFallBelowZero() {
        CHECK.sentence("C may be below 0)");
        dueBothWays(PRODUCT, 0x00000001, 0x7F100000, 0x39100000, 0);
        dueBothWays(PRODUCT, 0x00000001, 0x46100000, 0x00100000, 0);
        dueBothWays(PRODUCT, 0x00000001, 0x45100000, 0, UNDERFLOW);
        due(QUOTIENT, 0x00000001, 0x00000001, Op.ONE, 0);
        due(QUOTIENT, 0x00000001, 0x3C100000, 0x00100000, 0);
        due(QUOTIENT, 0x00000001, 0x3D100000, 0, UNDERFLOW);
        due(QUOTIENT, 0x3A100000, 0x00000001, 0x00100000, OVERFLOW);
        due(QUOTIENT, 0x39100000, 0x00000001, 0x7F100000, 0);
    }

    private static void signOfProductAndQuotient() {
        CHECK.sentence("the sign being that of both if they are alike +, else -.");
        due(PRODUCT, Op.TWO, Op.THREE, Op.SIX, 0);
        due(PRODUCT, 0xC1200000, 0xC1300000, Op.SIX, 0);
        dueBothWays(PRODUCT, 0xC1200000, Op.THREE, 0xC1600000, 0);
        dueBothWays(PRODUCT, Op.ONE, 0xBEEFFFFF, 0xBEEFFFFF, 0);
        CHECK.sentence("the sign as for the product.");
        due(QUOTIENT, 0xBEEFFFFF, Op.ONE, 0xBEEFFFFF, 0);
        due(QUOTIENT, Op.SIX, Op.THREE, Op.TWO, 0);
        due(QUOTIENT, 0xC1600000, 0xC1300000, Op.TWO, 0);
        due(QUOTIENT, 0xC1600000, Op.THREE, 0xC1200000, 0);
        due(QUOTIENT, Op.SIX, 0xC1300000, 0xC1200000, 0);
    }

    private static void quotientByNothing() {
        CHECK.sentence("F of b 0: DIVIDE, and it is a");
        int[] nothings = {0, MINUS_ZERO, 0x7F000000, 0xFF000000, 0x41000000};
        int[] numbers = {0, MINUS_ZERO, 0x46000000, 0xC6000001, Op.ONE, 0xC1100000, Op.LARGEST, 0xFFFFFFFF};
        for (int b : nothings) {
            for (int a : numbers) {
                due(QUOTIENT, a, b, a, DIVIDE);
            }
        }
        due(QUOTIENT, Op.ONE, 0x41000001, 0x46100000, 0);
    }

    private static void quotientOfNothing() {
        CHECK.sentence("else F of a 0: ZERO");
        due(QUOTIENT, 0, Op.ONE, 0, 0);
        due(QUOTIENT, MINUS_ZERO, Op.ONE, 0, 0);
        due(QUOTIENT, 0x7F000000, 0x00000001, 0, 0);
        due(QUOTIENT, 0xC1000000, 0xFFFFFFFF, 0, 0);
        due(QUOTIENT, 0x00000000, 0x7FFFFFFF, 0, 0);
    }

    private static void quotientStaysBelowTwoToTheTwentyEighth() {
        CHECK.sentence("F of a * 2^24 / F of b (it is below 2^28) and C of a less that of b plus 65 are finished");
        due(QUOTIENT, 0x41FFFFFF, 0x41100000, 0x41FFFFFF, 0);
        due(QUOTIENT, 0x41FFFFFF, 0x41100001, 0x41FFFFEF, 0);
        due(QUOTIENT, 0x41100000, 0x41FFFFFF, 0x40100000, 0);
        due(QUOTIENT, 0x41FFFFFE, 0x41FFFFFF, 0x40FFFFFE, 0);
        due(QUOTIENT, 0x41FFFFFF, 0x41FFFFFF, Op.ONE, 0);
    }
}
