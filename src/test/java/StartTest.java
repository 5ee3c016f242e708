/** Promise 3: start. */
public final class StartTest {
    private static final Check CHECK = new Check();

    public static void main(String[] args) {
        wrongPlacesAreRefused();
        busyMachinesAreRefused();
        itRunsFromThere();
        nothingIsNotedAndAllElseStays();
        CHECK.end();
    }

    private static void wrongPlacesAreRefused() {
        TagMachine x = new TagMachine(1, 1);
        CHECK.badArgument("start(0) without instructions", () -> x.start(0));
        Op.halt(x);
        Op.halt(x);
        CHECK.badArgument("start(-1)", () -> x.start(-1));
        CHECK.badArgument("start(2) of two", () -> x.start(2));
        CHECK.badArgument("start(MIN)", () -> x.start(Integer.MIN_VALUE));
        CHECK.badArgument("start(MAX)", () -> x.start(Integer.MAX_VALUE));
        CHECK.same("about(0)", x.about(0), Op.HALTED);
        CHECK.same("start(1)", x.start(1), true);
    }

    private static void busyMachinesAreRefused() {
        CHECK.badState("start while it runs", () -> Op.running().start(0));
        CHECK.badState("start while it drains", () -> Op.draining().start(1));
        CHECK.badArgument("start of none while it runs", () -> Op.running().start(1));
        CHECK.badArgument("start of none while it drains", () -> Op.draining().start(2));
    }

    private static void itRunsFromThere() {
        TagMachine x = new TagMachine(1, 1);
        Op.setTo(x, 0, 5);
        Op.setTo(x, 1, 6);
        Op.halt(x);
        CHECK.same("start(1)", x.start(1), true);
        CHECK.same("about(0)", x.about(0), Op.RUNS);
        CHECK.same("about(1)", x.about(1), 1);
        CHECK.same("about(4)", x.about(4), 0);
        x.run(300);
        CHECK.same("general(0)", x.general(0), 0);
        CHECK.same("general(1)", x.general(1), 6);
    }

    private static void nothingIsNotedAndAllElseStays() {
        TagMachine x = new TagMachine(1, 1);
        Op.setTo(x, 2, 9);
        Op.pair(x, Op.COMP, 1, 0);
        Op.access(x, Op.STORE, 1, 0, 7);
        Op.pair(x, Op.DIV, 1, 0);
        x.set(1, Op.THREE);
        x.start(0);
        x.run(300);
        CHECK.same("about(0) at the end", x.about(0), Op.STOPPED);
        CHECK.same("about(2) at the end", x.about(2), 16 + 4);
        int cycles = x.about(4);
        CHECK.same("start(0)", x.start(0), true);
        CHECK.same("about(0)", x.about(0), Op.RUNS);
        CHECK.same("about(1)", x.about(1), 0);
        CHECK.same("about(2)", x.about(2), 0);
        CHECK.same("about(3)", x.about(3), 2);
        CHECK.same("about(4)", x.about(4), cycles);
        CHECK.same("about(5)", x.about(5), 4);
        CHECK.same("general(2)", x.general(2), 9);
        CHECK.same("floating(1)", x.floating(1), Op.THREE);
        CHECK.same("word(7)", x.word(7), Op.THREE);
    }
}
