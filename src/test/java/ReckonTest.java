import java.util.Random;

/** Promises 7 and 8, reckon and exceptions: what is due was worked out by hand, then by a model of it. */
public final class ReckonTest {
    private static final int SUM = 0;
    private static final int DIFFERENCE = 1;
    private static final int PRODUCT = 2;
    private static final int QUOTIENT = 3;
    private static final int COMPARED = 4;
    private static final int OVERFLOW = 1;
    private static final int UNDERFLOW = 2;
    private static final int DIVIDE = 4;
    private static final int MINUS_ZERO = 0x80000000;

    private static final Check CHECK = new Check();
    private static final TagMachine MACHINE = new TagMachine(1, 1);

    public static void main(String[] args) {
        sums();
        sumsOfUnlikeCharacteristics();
        differences();
        products();
        quotients();
        comparisons();
        wrongWays();
        busyMachinesReckonToo();
        manyAgainstTheModel();
        CHECK.end();
    }

    private static void due(int how, int a, int b, int result, int raised) {
        String numbers = String.format("(%d, %08X, %08X)", how, a, b);
        CHECK.sameNumber("reckon" + numbers, MACHINE.reckon(how, a, b), result);
        CHECK.same("exceptions" + numbers, MACHINE.exceptions(how, a, b), raised);
    }

    private static void sums() {
        due(SUM, Op.ONE, Op.TWO, Op.THREE, 0);
        due(SUM, 0xC1100000, 0xC1200000, 0xC1300000, 0);
        due(SUM, Op.ONE, 0xC1300000, 0xC1200000, 0);
        due(SUM, Op.ONE, 0xC1100000, 0, 0);
        due(SUM, MINUS_ZERO, MINUS_ZERO, 0, 0);
        due(SUM, MINUS_ZERO, 0xC1000001, 0xBC100000, 0);
        due(SUM, 0x41F00000, Op.ONE, 0x42100000, 0);
        due(SUM, 0xC1FFFFFF, 0xC1000001, 0xC2100000, 0);
        due(SUM, 0x41FFFFFF, 0x41FFFFFF, 0x421FFFFF, 0);
        due(SUM, 0x41000001, 0x41000001, 0x3C200000, 0);
        due(SUM, 0x7FF00000, 0x7F100000, 0x00100000, OVERFLOW);
        due(SUM, 0x7FF00000, 0x7F0FFFFF, 0x7FFFFFFF, 0);
        due(SUM, 0xFFFFFFFF, 0xFFFFFFFF, 0x801FFFFF, OVERFLOW);
        due(SUM, 0x05000001, 0, 0x00100000, 0);
        due(SUM, 0x04000001, 0, 0, UNDERFLOW);
        due(SUM, 0x80000001, 0, 0, UNDERFLOW);
        due(SUM, 0x00100000, MINUS_ZERO, 0x00100000, 0);
    }

    private static void sumsOfUnlikeCharacteristics() {
        due(SUM, Op.ONE, 0x42100000, 0x42110000, 0);
        due(SUM, 0x47000000, Op.ONE, Op.ONE, 0);
        due(SUM, Op.ONE, 0x47000000, Op.ONE, 0);
        due(SUM, 0x48000000, 0x41FFFFFF, 0, 0);
        due(SUM, 0x49000000, 0x41FFFFFF, 0, 0);
        due(SUM, 0x61000000, 0x41FFFFFF, 0, 0);
        due(SUM, 0x47100000, 0x41FFFFFF, 0x47100000, 0);
        due(SUM, 0x46FFFFFF, 0x41F00000, 0x47100000, 0);
        due(SUM, 0x7F100000, 0x00FFFFFF, 0x7F100000, 0);
        due(SUM, 0x80FFFFFF, 0x7F100000, 0x7F100000, 0);
    }

    private static void differences() {
        due(DIFFERENCE, Op.THREE, Op.TWO, Op.ONE, 0);
        due(DIFFERENCE, Op.ONE, Op.TWO, 0xC1100000, 0);
        due(DIFFERENCE, Op.ONE, 0xC1200000, Op.THREE, 0);
        due(DIFFERENCE, 0xC1100000, 0xC1100000, 0, 0);
        due(DIFFERENCE, 0, MINUS_ZERO, 0, 0);
        due(DIFFERENCE, Op.ONE, 0x40FFFFFF, 0x3B100000, 0);
        due(DIFFERENCE, Op.ONE, 0x3FFFFFFF, 0x40F00001, 0);
        due(DIFFERENCE, 0x3FFFFFFF, Op.ONE, 0xC0F00001, 0);
        due(DIFFERENCE, Op.ONE, 0x3B100000, 0x40FFFFFF, 0);
        due(DIFFERENCE, Op.ONE, 0x3AFFFFFF, Op.ONE, 0);
        due(DIFFERENCE, 0x00100001, 0x00100000, 0, UNDERFLOW);
        due(DIFFERENCE, 0x7FF00000, 0xFF100000, 0x00100000, OVERFLOW);
        due(DIFFERENCE, 0xFFF00000, 0x7F100000, 0x80100000, OVERFLOW);
    }

    private static void products() {
        due(PRODUCT, Op.TWO, Op.THREE, Op.SIX, 0);
        due(PRODUCT, 0xC1200000, Op.THREE, 0xC1600000, 0);
        due(PRODUCT, Op.TWO, 0xC1300000, 0xC1600000, 0);
        due(PRODUCT, 0xC1200000, 0xC1300000, Op.SIX, 0);
        due(PRODUCT, Op.FOUR, Op.FOUR, 0x42100000, 0);
        due(PRODUCT, 0x41FFFFFF, 0x41FFFFFF, 0x42FFFFFE, 0);
        due(PRODUCT, 0x41100001, 0x41100001, 0x41100002, 0);
        due(PRODUCT, 0, 0xFFFFFFFF, 0, 0);
        due(PRODUCT, Op.ONE, MINUS_ZERO, 0, 0);
        due(PRODUCT, 0x7F000000, Op.ONE, 0, 0);
        due(PRODUCT, 0x46000001, Op.THREE, Op.THREE, 0);
        due(PRODUCT, 0x00000001, 0x7F100000, 0x39100000, 0);
        due(PRODUCT, 0x00100000, 0x41100000, 0x00100000, 0);
        due(PRODUCT, 0x00100000, 0x40100000, 0, UNDERFLOW);
        due(PRODUCT, 0x80000001, 0x00000001, 0, UNDERFLOW);
        due(PRODUCT, 0x7F100000, 0x41F00000, 0x7FF00000, 0);
        due(PRODUCT, 0x7F100000, 0x42100000, 0x00100000, OVERFLOW);
        due(PRODUCT, 0x7FFFFFFF, 0xFFFFFFFF, 0xBEFFFFFE, OVERFLOW);
    }

    private static void quotients() {
        due(QUOTIENT, Op.SIX, Op.THREE, Op.TWO, 0);
        due(QUOTIENT, 0xC1600000, Op.THREE, 0xC1200000, 0);
        due(QUOTIENT, Op.SIX, 0xC1300000, 0xC1200000, 0);
        due(QUOTIENT, 0xC1600000, 0xC1300000, Op.TWO, 0);
        due(QUOTIENT, Op.ONE, Op.THREE, 0x40555555, 0);
        due(QUOTIENT, 0xC1200000, Op.THREE, 0xC0AAAAAA, 0);
        due(QUOTIENT, 0x41FFFFFF, Op.ONE, 0x41FFFFFF, 0);
        due(QUOTIENT, Op.ONE, 0, Op.ONE, DIVIDE);
        due(QUOTIENT, 0xC6000001, 0x7F000000, 0xC6000001, DIVIDE);
        due(QUOTIENT, 0, 0, 0, DIVIDE);
        due(QUOTIENT, MINUS_ZERO, MINUS_ZERO, MINUS_ZERO, DIVIDE);
        due(QUOTIENT, MINUS_ZERO, Op.ONE, 0, 0);
        due(QUOTIENT, 0x41000000, 0x7F000001, 0, 0);
        due(QUOTIENT, 0x46000006, 0x45000030, Op.TWO, 0);
        due(QUOTIENT, 0x7F100000, 0x00000001, 0x45100000, OVERFLOW);
        due(QUOTIENT, 0xFF100000, 0x40F00000, 0xFF111111, 0);
        due(QUOTIENT, 0xFF100000, 0x40100000, 0x80100000, OVERFLOW);
        due(QUOTIENT, 0x00100000, 0x41100000, 0x00100000, 0);
        due(QUOTIENT, 0x00100000, 0x41200000, 0, UNDERFLOW);
        due(QUOTIENT, 0x00000001, 0xFFFFFFFF, 0, UNDERFLOW);
    }

    private static void comparisons() {
        due(COMPARED, Op.ONE, Op.ONE, 0, 0);
        due(COMPARED, Op.ONE, Op.TWO, 1, 0);
        due(COMPARED, Op.TWO, Op.ONE, 2, 0);
        due(COMPARED, 0xC1100000, Op.ONE, 1, 0);
        due(COMPARED, 0xC1100000, 0xC1200000, 2, 0);
        due(COMPARED, 0, MINUS_ZERO, 0, 0);
        due(COMPARED, 0x7F000000, MINUS_ZERO, 0, 0);
        due(COMPARED, 0x41100000, 0x42010000, 0, 0);
        due(COMPARED, Op.ONE, 0x40FFFFFF, 2, 0);
        due(COMPARED, Op.ONE, 0x3AFFFFFF, 2, 0);
        due(COMPARED, 0x48000000, 0x41FFFFFF, 0, 0);
        due(COMPARED, 0x47000000, 0x41FFFFFF, 1, 0);
        due(COMPARED, 0x00100001, 0x00100000, 2, 0);
        due(COMPARED, 0x7FFFFFFF, 0xFFFFFFFF, 2, 0);
        due(COMPARED, 0xFFFFFFFF, 0x7FFFFFFF, 1, 0);
    }

    private static void wrongWays() {
        int[] wrong = {Integer.MIN_VALUE, -1, 5, Integer.MAX_VALUE};
        for (int how : wrong) {
            CHECK.badArgument("reckon(" + how + ")", () -> MACHINE.reckon(how, 1, 1));
            CHECK.badArgument("exceptions(" + how + ")", () -> MACHINE.exceptions(how, 1, 1));
        }
    }

    private static void busyMachinesReckonToo() {
        TagMachine x = Op.draining();
        CHECK.same("reckon while it drains", x.reckon(SUM, Op.ONE, Op.TWO), Op.THREE);
        CHECK.same("exceptions while it drains", x.exceptions(QUOTIENT, 1, 0), DIVIDE);
        x.run(300);
        CHECK.same("about(0)", x.about(0), Op.HALTED);
        CHECK.same("about(2)", x.about(2), 0);
        CHECK.same("floating(0)", x.floating(0), 0);
    }

    private static void manyAgainstTheModel() {
        Random random = new Random(7);
        for (int i = 0; i < 100000; i++) {
            int how = random.nextInt(5);
            int a = someNumber(random);
            int b = someNumber(random);
            if (random.nextInt(4) == 0) {
                b = near(a, random);
            }
            NumberModel due = NumberModel.of(how, a, b);
            due(how, a, b, due.result, due.raised);
        }
    }

    private static int someNumber(Random random) {
        int number = random.nextInt();
        switch (random.nextInt(6)) {
            case 0:
                return number & 0xFF0000FF;
            case 1:
                return number & 0x83FFFFFF;
            case 2:
                return number | 0x7CFFFF00;
            case 3:
                return number & 0x87FFFFFF | 0x40000000;
            case 4:
                return number & 0xFFF00000;
            default:
                return number;
        }
    }

    /** Like a but for few digits, so that sums lose most of theirs. */
    private static int near(int a, Random random) {
        return a ^ random.nextInt(3) ^ random.nextInt(3) << 24 ^ random.nextInt(2) << 31;
    }
}
