import java.util.Random;

/** Makes programs and numbers by chance, the same ones in every run. */
final class Programs {
    private static final int[] NUMBERS = {
        0, Op.ONE, Op.TWO, Op.THREE, 0xC1100000, 0xC1200000, 0x40FFFFFF, 0x46000001, 0x41555555, 0x80000000,
    };
    private static final int[] EXTREMES = {Op.LARGEST, 0xFFFFFFFF, Op.SMALLEST, 0x00000001, 0x7F100000};

    private final Random random;
    /** How many in a hundred numbers and places may raise an exception. */
    private final int danger;

    Programs(Random random, int danger) {
        this.random = random;
        this.danger = danger;
    }

    int number() {
        if (random.nextInt(100) < danger) {
            return EXTREMES[random.nextInt(EXTREMES.length)];
        }
        return NUMBERS[random.nextInt(NUMBERS.length)];
    }

    /** Instruction "at" of so many: op, r, s, b, n. */
    int[] instruction(int at, int of) {
        int op = random.nextInt(12);
        if (op == Op.IF || op == Op.COUNT) {
            op = random.nextInt(12);
        }
        int[] made = {op, random.nextInt(4), random.nextInt(4), random.nextInt(4), 0};
        made[4] = parameter(op, at, of);
        return made;
    }

    private int parameter(int op, int at, int of) {
        boolean wild = random.nextInt(100) < danger;
        switch (op) {
            case Op.LOAD:
            case Op.STORE:
                return wild ? random.nextInt(60) - 10 : 8 + random.nextInt(6);
            case Op.SET:
            case Op.ADDN:
                return wild ? random.nextInt(40) - 20 : random.nextInt(4);
            case Op.COUNT:
            case Op.IF:
                return wild ? random.nextInt(of + 3) - 1 : Math.min(at + 1 + random.nextInt(2), of - 1);
            default:
                return random.nextInt(2001) - 1000;
        }
    }
}
