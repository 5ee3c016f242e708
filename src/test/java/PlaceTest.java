/** Promise 13: place. */
public final class PlaceTest {
    private static final int FREE = 0;
    private static final int NOT_BEGUN = 1;
    private static final int WORKS = 2;
    private static final int DONE = 3;

    private static final Check CHECK = new Check();

    public static void main(String[] args) {
        noneSuch();
        aStation();
        aLoad();
        storesAreNeverDone();
        allAtOnce();
        CHECK.end();
    }

    private static void noneSuch() {
        int[] wrong = {Integer.MIN_VALUE, -1, 0, 13, Integer.MAX_VALUE};
        for (int t : wrong) {
            CHECK.same("place(" + t + ")", new TagMachine(1, 1).place(t), TagMachine.NONE);
            CHECK.same("place(" + t + ") while it drains", Op.draining().place(t), TagMachine.NONE);
        }
    }

    private static void goesThrough(TagMachine x, int t, int... states) {
        x.start(0);
        for (int i = 0; i < states.length; i++) {
            x.run(1);
            CHECK.same("place(" + t + ") after cycle " + (i + 1), x.place(t), states[i]);
        }
    }

    private static void aStation() {
        TagMachine x = new TagMachine(1, 1);
        Op.pair(x, Op.ADD, 0, 0);
        Op.halt(x);
        goesThrough(x, 1, NOT_BEGUN, WORKS, WORKS, DONE, FREE);
    }

    private static void aLoad() {
        TagMachine x = new TagMachine(1, 1);
        Op.access(x, Op.LOAD, 0, 0, 0);
        Op.halt(x);
        goesThrough(x, 6, NOT_BEGUN, WORKS, DONE, FREE);
    }

    private static void storesAreNeverDone() {
        TagMachine x = new TagMachine(1, 2);
        Op.access(x, Op.STORE, 0, 0, 0);
        Op.halt(x);
        goesThrough(x, 10, NOT_BEGUN, WORKS, WORKS, FREE);
        CHECK.same("about(0)", x.about(0), Op.HALTED);
    }

    /** Fills all that there is: the loads hold up one another, and all else waits for the last of them. */
    private static void allAtOnce() {
        TagMachine x = new TagMachine(1, 8);
        for (int i = 0; i < 4; i++) {
            Op.access(x, Op.LOAD, 3, 0, i);
        }
        for (int i = 0; i < 3; i++) {
            Op.access(x, Op.STORE, 3, 0, 10 + i);
        }
        Op.pair(x, Op.ADD, 0, 3);
        Op.pair(x, Op.SUB, 1, 3);
        Op.pair(x, Op.COMP, 2, 3);
        Op.setTo(x, 0, 1);
        Op.pair(x, Op.MUL, 0, 3);
        Op.pair(x, Op.DIV, 1, 0);
        Op.pair(x, Op.MUL, 0, 0);
        x.start(0);
        x.run(9);
        places("after cycle 9", x, 1, 1, 0, 0, 0, 2, 1, 1, 1, 1, 1, 1);
        x.run(1);
        places("after cycle 10", x, 1, 1, 1, 0, 0, 3, 2, 1, 1, 1, 1, 1);
        x.run(3);
        places("after cycle 13", x, 1, 1, 1, 1, 1, 0, 2, 1, 1, 1, 1, 1);
        CHECK.same("about(1)", x.about(1), 13);
    }

    private static void places(String when, TagMachine x, int... states) {
        for (int t = 1; t <= 12; t++) {
            CHECK.same("place(" + t + ") " + when, x.place(t), states[t - 1]);
        }
    }
}
