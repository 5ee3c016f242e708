/** Promise 2: put. */
public final class PutTest {
    private static final Check CHECK = new Check();

    public static void main(String[] args) {
        edgesAreTaken();
        wrongArgumentsAreRefused();
        onlySetTakesAnyN();
        thereAreThirtyAtMost();
        busyMachinesTakeNone();
        wrongArgumentsComeFirst();
        laterInstructionsAreTaken();
        CHECK.end();
    }

    private static void edgesAreTaken() {
        TagMachine x = new TagMachine(1, 1);
        for (int op = 0; op <= 12; op++) {
            CHECK.same("put of op " + op, x.put(op, 0, 0, 0, -1000), 2 * op);
            CHECK.same("put of op " + op, x.put(op, 3, 3, 3, 1000), 2 * op + 1);
        }
        CHECK.same("about(6)", x.about(6), 26);
    }

    private static void wrongArgumentsAreRefused() {
        TagMachine x = new TagMachine(1, 1);
        refused(x, -1, 0, 0, 0, 0);
        refused(x, 13, 0, 0, 0, 0);
        refused(x, Integer.MIN_VALUE, 0, 0, 0, 0);
        refused(x, Integer.MAX_VALUE, 0, 0, 0, 0);
        for (int op = 0; op <= 12; op++) {
            refused(x, op, -1, 0, 0, 0);
            refused(x, op, 4, 0, 0, 0);
            refused(x, op, 0, -1, 0, 0);
            refused(x, op, 0, 4, 0, 0);
            refused(x, op, 0, 0, -1, 0);
            refused(x, op, 0, 0, 4, 0);
        }
        CHECK.same("about(6) after refusals", x.about(6), 0);
    }

    private static void onlySetTakesAnyN() {
        TagMachine x = new TagMachine(1, 1);
        for (int op = 0; op <= 12; op++) {
            if (op != Op.SET) {
                refused(x, op, 0, 0, 0, -1001);
                refused(x, op, 0, 0, 0, 1001);
                refused(x, op, 0, 0, 0, Integer.MIN_VALUE);
                refused(x, op, 0, 0, 0, Integer.MAX_VALUE);
            }
        }
        CHECK.same("put of SET", x.put(Op.SET, 0, 0, 0, Integer.MIN_VALUE), 0);
        CHECK.same("put of SET", x.put(Op.SET, 0, 0, 0, Integer.MAX_VALUE), 1);
        CHECK.same("put of SET", x.put(Op.SET, 0, 0, 0, 1001), 2);
    }

    private static void refused(TagMachine x, int op, int r, int s, int b, int n) {
        CHECK.badArgument("put(" + op + ", " + r + ", " + s + ", " + b + ", " + n + ")", () -> x.put(op, r, s, b, n));
    }

    private static void thereAreThirtyAtMost() {
        TagMachine x = new TagMachine(1, 1);
        for (int i = 0; i < 30; i++) {
            CHECK.same("put number " + i, x.put(Op.HALT, 0, 0, 0, 0), i);
        }
        CHECK.badState("the 31st put", () -> x.put(Op.HALT, 0, 0, 0, 0));
        refused(x, 13, 0, 0, 0, 0);
        CHECK.same("about(6)", x.about(6), 30);
    }

    private static void busyMachinesTakeNone() {
        CHECK.badState("put while it runs", () -> Op.running().put(Op.HALT, 0, 0, 0, 0));
        CHECK.badState("put while it drains", () -> Op.draining().put(Op.HALT, 0, 0, 0, 0));
    }

    private static void wrongArgumentsComeFirst() {
        refused(Op.running(), Op.HALT, 4, 0, 0, 0);
        refused(Op.draining(), Op.HALT, 0, 0, 0, 1001);
    }

    private static void laterInstructionsAreTaken() {
        TagMachine x = Op.draining();
        x.run(300);
        CHECK.same("put after it halted", x.put(Op.SET, 2, 0, 0, 77), 2);
        x.start(2);
        x.run(300);
        CHECK.same("put after it stopped", x.put(Op.HALT, 0, 0, 0, 0), 3);
        CHECK.same("general(2)", x.general(2), 77);
    }
}
