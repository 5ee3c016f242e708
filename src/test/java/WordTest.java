/** Promise 11: word. */
public final class WordTest {
    private static final Check CHECK = new Check();

    public static void main(String[] args) {
        noSuchPlace();
        aStoreWritesWhenItIsThrough();
        aStoreWritesWhatItWaitedFor();
        theEdgesOfStorage();
        CHECK.end();
    }

    private static void noSuchPlace() {
        TagMachine x = new TagMachine(1, 1);
        for (int place = 0; place < 32; place++) {
            x.store(place, 9);
        }
        CHECK.same("word(0)", x.word(0), 9);
        CHECK.same("word(31)", x.word(31), 9);
        int[] wrong = {Integer.MIN_VALUE, -1, 32, Integer.MAX_VALUE};
        for (int place : wrong) {
            CHECK.same("word(" + place + ")", x.word(place), 0);
        }
    }

    /** Handed out in cycle 2, begun in 3, through in 6; F0 changes meanwhile. */
    private static void aStoreWritesWhenItIsThrough() {
        TagMachine x = new TagMachine(1, 3);
        x.set(0, Op.ONE);
        x.set(1, Op.TWO);
        x.store(4, Op.SIX);
        Op.setTo(x, 2, 3);
        Op.access(x, Op.STORE, 0, 2, 1);
        Op.pair(x, Op.MOVE, 0, 1);
        Op.halt(x);
        x.start(0);
        x.run(5);
        CHECK.same("word(4) after cycle 5", x.word(4), Op.SIX);
        CHECK.same("run(300)", x.run(300), 1);
        CHECK.same("word(4) after cycle 6", x.word(4), Op.ONE);
        CHECK.same("word(3)", x.word(3), 0);
        CHECK.same("word(5)", x.word(5), 0);
    }

    private static void aStoreWritesWhatItWaitedFor() {
        TagMachine x = new TagMachine(1, 2);
        x.set(0, Op.ONE);
        x.set(1, Op.TWO);
        Op.pair(x, Op.ADD, 0, 1);
        Op.access(x, Op.STORE, 0, 0, 3);
        Op.pair(x, Op.MOVE, 0, 1);
        Op.halt(x);
        x.start(0);
        x.run(6);
        CHECK.same("word(3) after cycle 6", x.word(3), 0);
        CHECK.same("run(300)", x.run(300), 1);
        CHECK.same("word(3) after cycle 7", x.word(3), Op.THREE);
        CHECK.same("floating(0)", x.floating(0), Op.TWO);
    }

    private static void theEdgesOfStorage() {
        reaches(0, 0, 0);
        reaches(0, 31, 0);
        reaches(-1000, 1000, 0);
        reaches(1031, -1000, 0);
        reaches(0, -1, 8);
        reaches(0, 32, 8);
        reaches(-1, 0, 8);
        reaches(32, 0, 8);
        reaches(Integer.MAX_VALUE, 1, 8);
        reaches(Integer.MIN_VALUE, -1, 8);
    }

    private static void reaches(int base, int n, int noted) {
        TagMachine x = new TagMachine(1, 1);
        x.set(0, Op.SIX);
        Op.setTo(x, 3, base);
        Op.access(x, Op.STORE, 0, 3, n);
        Op.access(x, Op.LOAD, 1, 3, n);
        Op.halt(x);
        String store = "STORE at " + base + " + " + n;
        x.start(0);
        x.run(300);
        CHECK.same("about(2) after " + store, x.about(2), noted);
        CHECK.same("floating(1) after " + store, x.floating(1), noted == 0 ? Op.SIX : 0);
        CHECK.same("word after " + store, x.word(base + n), noted == 0 ? Op.SIX : 0);
        TagMachine y = new TagMachine(1, 1);
        Op.setTo(y, 3, base);
        Op.access(y, Op.LOAD, 1, 3, n);
        Op.halt(y);
        y.start(0);
        y.run(300);
        CHECK.same("about(2) after LOAD from " + base + " + " + n, y.about(2), noted);
    }
}
