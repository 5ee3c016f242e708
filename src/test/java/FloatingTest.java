/** Promise 9: floating. */
public final class FloatingTest {
    private static final Check CHECK = new Check();

    public static void main(String[] args) {
        noSuchRegister();
        theOneBeforeWhileItWaits();
        onlyTheLatestTagBringsIt();
        movedTagsBringItToBoth();
        aMovedValueEndsTheWaiting();
        eachInstructionGivesItsResult();
        CHECK.end();
    }

    private static void noSuchRegister() {
        TagMachine x = new TagMachine(1, 1);
        for (int r = 0; r < 4; r++) {
            x.set(r, Op.ONE);
        }
        int[] wrong = {Integer.MIN_VALUE, -1, 4, Integer.MAX_VALUE};
        for (int r : wrong) {
            CHECK.same("floating(" + r + ")", x.floating(r), 0);
        }
    }

    private static void theOneBeforeWhileItWaits() {
        TagMachine x = new TagMachine(1, 1);
        x.set(0, Op.ONE);
        x.set(1, Op.TWO);
        Op.pair(x, Op.ADD, 0, 1);
        Op.halt(x);
        x.start(0);
        for (int cycle = 1; cycle <= 4; cycle++) {
            x.run(1);
            CHECK.same("floating(0) after cycle " + cycle, x.floating(0), Op.ONE);
        }
        x.run(1);
        CHECK.same("floating(0) after the bus", x.floating(0), Op.THREE);
        CHECK.same("floating(1)", x.floating(1), Op.TWO);
    }

    /** Both ADDs change F0; the first one's result is only for the second ADD. */
    private static void onlyTheLatestTagBringsIt() {
        TagMachine x = new TagMachine(1, 1);
        x.set(0, Op.ONE);
        Op.pair(x, Op.ADD, 0, 0);
        Op.pair(x, Op.ADD, 0, 0);
        Op.halt(x);
        x.start(0);
        x.run(7);
        CHECK.same("floating(0) after cycle 7", x.floating(0), Op.ONE);
        CHECK.same("run(300)", x.run(300), 1);
        CHECK.same("floating(0) after cycle 8", x.floating(0), Op.FOUR);
    }

    private static void movedTagsBringItToBoth() {
        TagMachine x = new TagMachine(1, 1);
        x.set(0, Op.ONE);
        x.set(3, Op.SIX);
        Op.pair(x, Op.ADD, 0, 0);
        Op.pair(x, Op.MOVE, 3, 0);
        Op.halt(x);
        x.start(0);
        x.run(4);
        CHECK.same("floating(3) after cycle 4", x.floating(3), Op.SIX);
        x.run(1);
        CHECK.same("floating(3) after cycle 5", x.floating(3), Op.TWO);
        CHECK.same("floating(0) after cycle 5", x.floating(0), Op.TWO);
    }

    private static void aMovedValueEndsTheWaiting() {
        TagMachine x = new TagMachine(1, 1);
        x.set(0, Op.ONE);
        x.set(1, Op.SIX);
        Op.pair(x, Op.ADD, 0, 0);
        Op.pair(x, Op.MOVE, 0, 1);
        Op.halt(x);
        x.start(0);
        x.run(2);
        CHECK.same("floating(0) after cycle 2", x.floating(0), Op.SIX);
        x.run(300);
        CHECK.same("floating(0) at the end", x.floating(0), Op.SIX);
    }

    private static void eachInstructionGivesItsResult() {
        results(Op.ADD, Op.SIX, Op.THREE, 0x41900000);
        results(Op.SUB, Op.SIX, Op.TWO, Op.FOUR);
        results(Op.MUL, Op.TWO, Op.THREE, Op.SIX);
        results(Op.DIV, Op.SIX, Op.THREE, Op.TWO);
        results(Op.COMP, Op.SIX, Op.THREE, Op.SIX);
        results(Op.MOVE, Op.SIX, 0x46000001, 0x46000001);
        results(Op.ADD, Op.LARGEST, Op.LARGEST, 0x001FFFFF);
        results(Op.MUL, Op.SMALLEST, Op.SMALLEST, 0);
        results(Op.DIV, 0x46000001, 0, 0x46000001);
    }

    private static void results(int op, int a, int b, int due) {
        TagMachine x = new TagMachine(1, 1);
        x.set(2, a);
        x.set(3, b);
        Op.pair(x, op, 2, 3);
        Op.halt(x);
        x.start(0);
        x.run(300);
        CHECK.sameNumber("floating(2) after op " + op, x.floating(2), due);
        CHECK.sameNumber("floating(3) after op " + op, x.floating(3), b);
    }
}
