import java.util.Random;

/** Without exceptions the machine ends with what the program gives when it is done one instruction after another. */
public final class InOrderTest {
    private static final int RUNS = 4000;
    private static final int SIZE = 29;

    private static final Check CHECK = new Check();

    private final int[] f = new int[4];
    private final int[] r = new int[4];
    private final int[] words = new int[32];
    private int code;
    private int raised;
    private int handedOut;

    public static void main(String[] args) {
        int compared = 0;
        for (int run = 0; run < RUNS; run++) {
            compared += new InOrderTest().go(new Random(90000L + run)) ? 1 : 0;
        }
        if (compared < RUNS / 10) {
            CHECK.fail("only " + compared + " programs went without exceptions");
        }
        CHECK.end();
    }

    private boolean go(Random random) {
        Programs programs = new Programs(random, 0);
        TagMachine x = new TagMachine(1 + random.nextInt(8), 1 + random.nextInt(8));
        for (int i = 0; i < 4; i++) {
            f[i] = programs.number();
            x.set(i, f[i]);
        }
        for (int i = 0; i < 32; i++) {
            words[i] = programs.number();
            x.store(i, words[i]);
        }
        int[][] program = new int[SIZE + 1][];
        for (int at = 0; at < SIZE; at++) {
            program[at] = programs.instruction(at, SIZE + 1);
        }
        program[SIZE] = new int[] {Op.HALT, 0, 0, 0, 0};
        for (int[] now : program) {
            x.put(now[0], now[1], now[2], now[3], now[4]);
        }
        doInOrder(program);
        if (raised == 0) {
            compare(x);
        }
        return raised == 0;
    }

    /** All goes forward, so each instruction is done once at most. */
    private void doInOrder(int[][] program) {
        int next = 0;
        while (raised == 0 && next <= SIZE) {
            handedOut++;
            int[] now = program[next];
            next = done(now) ? now[4] : next + 1;
        }
    }

    /** Tells whether it goes on at n. */
    private boolean done(int[] now) {
        int place = r[now[3]] + now[4];
        if (now[0] <= Op.STORE && (place < 0 || place > 31)) {
            raised = 8;
            return false;
        }
        switch (now[0]) {
            case Op.LOAD:
                f[now[1]] = words[place];
                return false;
            case Op.STORE:
                words[place] = f[now[1]];
                return false;
            case Op.COMP:
                code = NumberModel.of(4, f[now[1]], f[now[2]]).result;
                return false;
            case Op.MOVE:
                f[now[1]] = f[now[2]];
                return false;
            case Op.SET:
                r[now[1]] = now[4];
                return false;
            case Op.ADDN:
                r[now[1]] = r[now[2]] + now[4];
                return false;
            case Op.COUNT:
                r[now[1]]--;
                return r[now[1]] != 0;
            case Op.IF:
                return now[1] == 3 || now[1] == code;
            case Op.HALT:
                return false;
            default:
                NumberModel number = NumberModel.of(now[0] - Op.ADD, f[now[1]], f[now[2]]);
                raised |= number.raised;
                f[now[1]] = number.result;
                return false;
        }
    }

    private void compare(TagMachine x) {
        x.start(0);
        x.run(300);
        if (x.about(0) <= Op.DRAINS) {
            x.run(300);
        }
        CHECK.same("about(0)", x.about(0), Op.HALTED);
        CHECK.same("about(3)", x.about(3), code);
        CHECK.same("about(5)", x.about(5), handedOut);
        for (int i = 0; i < 4; i++) {
            CHECK.sameNumber("floating(" + i + ")", x.floating(i), f[i]);
            CHECK.same("general(" + i + ")", x.general(i), r[i]);
        }
        for (int i = 0; i < 32; i++) {
            CHECK.sameNumber("word(" + i + ")", x.word(i), words[i]);
        }
    }
}
