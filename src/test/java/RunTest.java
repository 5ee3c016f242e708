/** Promise 4: run. */
public final class RunTest {
    private static final Check CHECK = new Check();

    public static void main(String[] args) {
        wrongCountsAreRefused();
        idleMachinesAreRefused();
        itAnswersHowMany();
        fewerWhenItHaltsOrStops();
        CHECK.end();
    }

    private static void wrongCountsAreRefused() {
        int[] counts = {Integer.MIN_VALUE, -1, 0, 301, Integer.MAX_VALUE};
        for (int n : counts) {
            CHECK.badArgument("run(" + n + ") while it runs", () -> Op.running().run(n));
            CHECK.badArgument("run(" + n + ") of a new one", () -> new TagMachine(1, 1).run(n));
        }
        TagMachine x = Op.running();
        CHECK.badArgument("run(0)", () -> x.run(0));
        CHECK.same("about(4) after a refusal", x.about(4), 0);
    }

    private static void idleMachinesAreRefused() {
        CHECK.badState("run of a new one", () -> new TagMachine(1, 1).run(1));
        TagMachine halted = Op.draining();
        halted.run(300);
        CHECK.same("about(0)", halted.about(0), Op.HALTED);
        CHECK.badState("run of one that halted", () -> halted.run(1));
        TagMachine stopped = new TagMachine(1, 1);
        Op.setTo(stopped, 0, 0);
        stopped.start(0);
        stopped.run(300);
        CHECK.same("about(0)", stopped.about(0), Op.STOPPED);
        CHECK.badState("run of one that stopped", () -> stopped.run(300));
    }

    private static void itAnswersHowMany() {
        TagMachine x = Op.running();
        CHECK.same("run(1)", x.run(1), 1);
        CHECK.same("about(5)", x.about(5), 1);
        CHECK.same("run(300)", x.run(300), 300);
        CHECK.same("about(5)", x.about(5), 301);
        CHECK.same("run(17)", x.run(17), 17);
        CHECK.same("about(4)", x.about(4), 318);
        CHECK.same("about(0)", x.about(0), Op.RUNS);
    }

    /** DIV is handed out in cycle 1, begins in 2, is done in 10 and sent in 11. */
    private static void fewerWhenItHaltsOrStops() {
        TagMachine halts = Op.draining();
        CHECK.same("run(7)", halts.run(7), 7);
        CHECK.same("about(0)", halts.about(0), Op.DRAINS);
        CHECK.same("run(2)", halts.run(2), 1);
        CHECK.same("about(0)", halts.about(0), Op.HALTED);
        CHECK.same("about(4)", halts.about(4), 11);
        TagMachine stops = new TagMachine(1, 1);
        Op.pair(stops, Op.DIV, 0, 0);
        stops.start(0);
        CHECK.same("run(300)", stops.run(300), 11);
        CHECK.same("about(0)", stops.about(0), Op.STOPPED);
        CHECK.same("about(4)", stops.about(4), 11);
    }
}
