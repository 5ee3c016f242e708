/** Promise 1: a new object. */
public final class NewObjectTest {
    private static final Check CHECK = new Check();

    public static void main(String[] args) {
        allIsNothing(new TagMachine(2, 3));
        allIsNothing(new TagMachine(Integer.MIN_VALUE, Integer.MAX_VALUE));
        CHECK.same("NONE", TagMachine.NONE, -1);
        latencyIsClipped();
        banksAreClipped();
        CHECK.end();
    }

    private static void allIsNothing(TagMachine x) {
        CHECK.same("about(0)", x.about(0), Op.HALTED);
        for (int what = 1; what <= 6; what++) {
            CHECK.same("about(" + what + ")", x.about(what), 0);
        }
        for (int r = 0; r < 4; r++) {
            CHECK.same("floating(" + r + ")", x.floating(r), 0);
            CHECK.same("general(" + r + ")", x.general(r), 0);
        }
        for (int r = 0; r <= 4; r++) {
            CHECK.same("tag(" + r + ")", x.tag(r), 0);
        }
        for (int place = 0; place < 32; place++) {
            CHECK.same("word(" + place + ")", x.word(place), 0);
        }
        for (int t = 1; t <= 12; t++) {
            CHECK.same("place(" + t + ")", x.place(t), 0);
        }
    }

    private static void latencyIsClipped() {
        latencyIs(Integer.MIN_VALUE, 1);
        latencyIs(0, 1);
        latencyIs(1, 1);
        latencyIs(2, 2);
        latencyIs(5, 5);
        latencyIs(8, 8);
        latencyIs(9, 8);
        latencyIs(Integer.MAX_VALUE, 8);
    }

    /** Handed out in cycle 1, begun in 2, done in 2 + latency, sent in 3 + latency. */
    private static void latencyIs(int given, int due) {
        TagMachine x = new TagMachine(1, given);
        Op.access(x, Op.LOAD, 0, 0, 0);
        Op.halt(x);
        x.start(0);
        CHECK.same("one load with latency " + given, x.run(300), 3 + due);
    }

    private static void banksAreClipped() {
        placesMeet(Integer.MIN_VALUE, 1, true);
        placesMeet(0, 1, true);
        placesMeet(1, 1, true);
        placesMeet(2, 1, false);
        placesMeet(2, 2, true);
        placesMeet(3, 2, false);
        placesMeet(3, 3, true);
        placesMeet(7, 14, true);
        placesMeet(8, 7, false);
        placesMeet(8, 8, true);
        placesMeet(9, 8, true);
        placesMeet(9, 9, false);
        placesMeet(Integer.MAX_VALUE, 24, true);
        placesMeet(Integer.MAX_VALUE, 31, false);
    }

    /** The second load begins in cycle 3, or in cycle 10 when the first one's bank becomes free. */
    private static void placesMeet(int banks, int place, boolean meet) {
        TagMachine x = new TagMachine(banks, 8);
        Op.access(x, Op.LOAD, 0, 0, 0);
        Op.access(x, Op.LOAD, 1, 0, place);
        Op.halt(x);
        x.start(0);
        CHECK.same("loads from 0 and " + place + " with banks " + banks, x.run(300), meet ? 19 : 12);
    }
}
