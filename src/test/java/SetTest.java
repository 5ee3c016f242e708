/** Promise 5: set. */
public final class SetTest {
    private static final Check CHECK = new Check();

    public static void main(String[] args) {
        registersTakeAnyInt();
        wrongRegistersAreRefused();
        busyMachinesAreRefused();
        laterOnesAreTaken();
        CHECK.end();
    }

    private static void registersTakeAnyInt() {
        TagMachine x = new TagMachine(1, 1);
        int[] values = {Integer.MIN_VALUE, -1, 1, Integer.MAX_VALUE};
        for (int r = 0; r < 4; r++) {
            CHECK.same("set(" + r + ")", x.set(r, values[r]), true);
        }
        for (int r = 0; r < 4; r++) {
            CHECK.same("floating(" + r + ")", x.floating(r), values[r]);
            CHECK.same("general(" + r + ")", x.general(r), 0);
        }
        CHECK.same("set(2) again", x.set(2, 0), true);
        CHECK.same("floating(2)", x.floating(2), 0);
    }

    private static void wrongRegistersAreRefused() {
        int[] wrong = {Integer.MIN_VALUE, -1, 4, Integer.MAX_VALUE};
        for (int r : wrong) {
            CHECK.badArgument("set(" + r + ")", () -> new TagMachine(1, 1).set(r, 0));
            CHECK.badArgument("set(" + r + ") while it runs", () -> Op.running().set(r, 0));
            CHECK.badArgument("set(" + r + ") while it drains", () -> Op.draining().set(r, 0));
        }
    }

    private static void busyMachinesAreRefused() {
        TagMachine x = Op.running();
        CHECK.badState("set while it runs", () -> x.set(0, 5));
        CHECK.same("floating(0)", x.floating(0), 0);
        CHECK.badState("set while it drains", () -> Op.draining().set(3, 0));
    }

    private static void laterOnesAreTaken() {
        TagMachine x = Op.draining();
        x.run(300);
        CHECK.same("set after it halted", x.set(0, Op.SIX), true);
        x.start(0);
        x.run(300);
        CHECK.same("floating(0)", x.floating(0), Op.SIX);
    }
}
