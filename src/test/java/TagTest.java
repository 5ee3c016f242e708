/** Promise 12: tag. */
public final class TagTest {
    private static final Check CHECK = new Check();

    public static void main(String[] args) {
        noneSuch();
        stationsAndBuffersInTheirOrder();
        theCodeWaits();
        moves();
        CHECK.end();
    }

    private static void noneSuch() {
        int[] wrong = {Integer.MIN_VALUE, -1, 5, Integer.MAX_VALUE};
        for (int r : wrong) {
            CHECK.same("tag(" + r + ")", new TagMachine(1, 1).tag(r), TagMachine.NONE);
            CHECK.same("tag(" + r + ") while it drains", Op.draining().tag(r), TagMachine.NONE);
        }
    }

    private static void tags(String when, TagMachine x, int f0, int f1, int f2, int f3, int code) {
        CHECK.same("tag(0) " + when, x.tag(0), f0);
        CHECK.same("tag(1) " + when, x.tag(1), f1);
        CHECK.same("tag(2) " + when, x.tag(2), f2);
        CHECK.same("tag(3) " + when, x.tag(3), f3);
        CHECK.same("tag(4) " + when, x.tag(4), code);
    }

    private static void stationsAndBuffersInTheirOrder() {
        TagMachine x = new TagMachine(1, 8);
        Op.access(x, Op.LOAD, 0, 0, 0);
        Op.access(x, Op.LOAD, 1, 0, 1);
        Op.access(x, Op.LOAD, 2, 0, 2);
        Op.access(x, Op.LOAD, 3, 0, 3);
        Op.pair(x, Op.MUL, 0, 0);
        Op.pair(x, Op.DIV, 1, 0);
        Op.pair(x, Op.ADD, 2, 1);
        Op.pair(x, Op.COMP, 0, 0);
        Op.pair(x, Op.SUB, 3, 0);
        Op.halt(x);
        x.start(0);
        x.run(4);
        tags("after cycle 4", x, 6, 7, 8, 9, 0);
        x.run(2);
        tags("after cycle 6", x, 4, 5, 8, 9, 0);
        x.run(3);
        tags("after cycle 9", x, 4, 5, 1, 3, 2);
        x.run(300);
        tags("at the end", x, 0, 0, 0, 0, 0);
    }

    private static void theCodeWaits() {
        TagMachine x = new TagMachine(1, 1);
        x.set(0, Op.ONE);
        Op.pair(x, Op.COMP, 0, 1);
        Op.pair(x, Op.COMP, 1, 0);
        Op.halt(x);
        x.start(0);
        x.run(1);
        tags("after cycle 1", x, 0, 0, 0, 0, 1);
        x.run(1);
        tags("after cycle 2", x, 0, 0, 0, 0, 2);
        x.run(3);
        tags("after cycle 5", x, 0, 0, 0, 0, 2);
        CHECK.same("about(3) after cycle 5", x.about(3), 0);
        x.run(1);
        tags("after cycle 6", x, 0, 0, 0, 0, 0);
        CHECK.same("about(3) after cycle 6", x.about(3), 1);
    }

    private static void moves() {
        TagMachine x = new TagMachine(1, 1);
        Op.pair(x, Op.MUL, 0, 0);
        Op.pair(x, Op.MOVE, 1, 0);
        Op.pair(x, Op.MOVE, 2, 1);
        Op.pair(x, Op.MOVE, 0, 3);
        Op.pair(x, Op.MOVE, 1, 1);
        Op.halt(x);
        x.start(0);
        x.run(2);
        tags("after cycle 2", x, 4, 4, 0, 0, 0);
        x.run(3);
        tags("after cycle 5", x, 0, 4, 4, 0, 0);
        x.run(2);
        tags("after cycle 7", x, 0, 0, 0, 0, 0);
    }
}
