/** Promise 10: general. */
public final class GeneralTest {
    private static final Check CHECK = new Check();

    public static void main(String[] args) {
        noSuchRegister();
        setAndAdd();
        theyWrapAround();
        countsDown();
        countsFromZeroAndBelow();
        CHECK.end();
    }

    private static void noSuchRegister() {
        TagMachine x = new TagMachine(1, 1);
        for (int r = 0; r < 4; r++) {
            Op.setTo(x, r, 5 + r);
        }
        x.start(0);
        x.run(300);
        for (int r = 0; r < 4; r++) {
            CHECK.same("general(" + r + ")", x.general(r), 5 + r);
        }
        int[] wrong = {Integer.MIN_VALUE, -1, 4, Integer.MAX_VALUE};
        for (int r : wrong) {
            CHECK.same("general(" + r + ")", x.general(r), 0);
        }
    }

    private static void setAndAdd() {
        TagMachine x = new TagMachine(1, 1);
        Op.setTo(x, 1, -70);
        Op.addTo(x, 2, 1, 1000);
        Op.addTo(x, 2, 2, -1000);
        Op.halt(x);
        x.start(0);
        x.run(1);
        CHECK.same("general(1) after cycle 1", x.general(1), -70);
        x.run(1);
        CHECK.same("general(2) after cycle 2", x.general(2), 930);
        x.run(1);
        CHECK.same("general(2) after cycle 3", x.general(2), -70);
        CHECK.same("general(1) after cycle 3", x.general(1), -70);
    }

    private static void theyWrapAround() {
        TagMachine x = new TagMachine(1, 1);
        Op.setTo(x, 0, Integer.MAX_VALUE);
        Op.addTo(x, 1, 0, 1);
        Op.setTo(x, 2, Integer.MIN_VALUE);
        Op.count(x, 2, 4);
        Op.halt(x);
        x.start(0);
        x.run(300);
        CHECK.same("general(1)", x.general(1), Integer.MIN_VALUE);
        CHECK.same("general(2)", x.general(2), Integer.MAX_VALUE);
        CHECK.same("about(0)", x.about(0), Op.HALTED);
    }

    private static void countsDown() {
        TagMachine x = new TagMachine(1, 1);
        Op.setTo(x, 3, 4);
        Op.addTo(x, 0, 0, 10);
        Op.count(x, 3, 1);
        Op.halt(x);
        x.start(0);
        CHECK.same("run(300)", x.run(300), 10);
        CHECK.same("general(0)", x.general(0), 40);
        CHECK.same("general(3)", x.general(3), 0);
        CHECK.same("about(5)", x.about(5), 10);
    }

    private static void countsFromZeroAndBelow() {
        TagMachine x = new TagMachine(1, 1);
        Op.count(x, 3, 0);
        x.start(0);
        x.run(5);
        CHECK.same("general(3)", x.general(3), -5);
        CHECK.same("about(1)", x.about(1), 0);
    }
}
