/** Promise 14: about. */
public final class AboutTest {
    private static final Check CHECK = new Check();

    public static void main(String[] args) {
        noneSuch();
        theModes();
        whatIsNext();
        whatWasNoted();
        theCode();
        countsGoOnOverStarts();
        CHECK.end();
    }

    private static void noneSuch() {
        int[] wrong = {Integer.MIN_VALUE, -1, 7, Integer.MAX_VALUE};
        for (int what : wrong) {
            CHECK.same("about(" + what + ")", new TagMachine(1, 1).about(what), TagMachine.NONE);
        }
    }

    private static void theModes() {
        TagMachine x = Op.running();
        CHECK.same("about(0) when started", x.about(0), 0);
        TagMachine y = Op.draining();
        CHECK.same("about(0) behind HALT", y.about(0), 1);
        y.run(300);
        CHECK.same("about(0) at the end", y.about(0), 2);
        TagMachine z = new TagMachine(1, 1);
        Op.setTo(z, 0, 0);
        z.start(0);
        z.run(300);
        CHECK.same("about(0) behind the last instruction", z.about(0), 3);
    }

    private static void whatIsNext() {
        TagMachine x = new TagMachine(1, 1);
        Op.goIf(x, 0, 2);
        Op.halt(x);
        Op.goIf(x, 1, 0);
        Op.goIf(x, 3, -1000);
        x.start(0);
        x.run(1);
        CHECK.same("about(1) after IF 0", x.about(1), 2);
        x.run(1);
        CHECK.same("about(1) after IF 1", x.about(1), 3);
        x.run(1);
        CHECK.same("about(1) after IF 3", x.about(1), -1000);
        CHECK.same("about(0) after IF 3", x.about(0), Op.RUNS);
        CHECK.same("run(300)", x.run(300), 1);
        CHECK.same("about(1) when it stopped", x.about(1), -1000);
        CHECK.same("about(2) when it stopped", x.about(2), 16);
        CHECK.same("about(5) when it stopped", x.about(5), 3);
        x.start(1);
        x.run(300);
        CHECK.same("about(1) behind HALT", x.about(1), 2);
    }

    private static void whatWasNoted() {
        noted(Op.ADD, Op.LARGEST, Op.LARGEST, 1);
        noted(Op.SUB, 0x00100001, 0x00100000, 2);
        noted(Op.MUL, Op.LARGEST, Op.LARGEST, 1);
        noted(Op.MUL, Op.SMALLEST, Op.SMALLEST, 2);
        noted(Op.DIV, Op.LARGEST, Op.SMALLEST, 1);
        noted(Op.DIV, Op.SMALLEST, Op.LARGEST, 2);
        noted(Op.DIV, Op.ONE, 0, 4);
        noted(Op.COMP, Op.LARGEST, 0xFFFFFFFF, 0);
        noted(Op.ADD, Op.ONE, Op.ONE, 0);
    }

    private static void noted(int op, int a, int b, int due) {
        TagMachine x = new TagMachine(1, 1);
        x.set(0, a);
        x.set(1, b);
        Op.pair(x, op, 0, 1);
        Op.halt(x);
        x.start(0);
        x.run(300);
        CHECK.same("about(2) after op " + op, x.about(2), due);
        CHECK.same("about(0) after op " + op, x.about(0), due == 0 ? Op.HALTED : Op.STOPPED);
    }

    private static void theCode() {
        TagMachine x = new TagMachine(1, 1);
        x.set(0, Op.ONE);
        Op.pair(x, Op.COMP, 0, 1);
        Op.goIf(x, 3, 2);
        Op.pair(x, Op.COMP, 1, 0);
        Op.halt(x);
        x.start(0);
        x.run(4);
        CHECK.same("about(3) after cycle 4", x.about(3), 0);
        x.run(1);
        CHECK.same("about(3) after cycle 5", x.about(3), 2);
        x.run(4);
        CHECK.same("about(3) after cycle 9", x.about(3), 2);
        CHECK.same("tag(4) after cycle 9", x.tag(4), 1);
        x.run(1);
        CHECK.same("about(3) after cycle 10", x.about(3), 1);
        CHECK.same("about(0) after cycle 10", x.about(0), Op.HALTED);
    }

    private static void countsGoOnOverStarts() {
        TagMachine x = Op.draining();
        CHECK.same("about(4)", x.about(4), 3);
        CHECK.same("about(5)", x.about(5), 2);
        CHECK.same("about(6)", x.about(6), 2);
        x.run(300);
        x.start(1);
        x.run(1);
        CHECK.same("about(4)", x.about(4), 12);
        CHECK.same("about(5)", x.about(5), 3);
        x.start(0);
        x.run(300);
        CHECK.same("about(4)", x.about(4), 23);
        CHECK.same("about(5)", x.about(5), 5);
        CHECK.same("about(6)", x.about(6), 2);
    }
}
