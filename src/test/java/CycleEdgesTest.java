/** The edges of the machine and its cycle: for each sentence that names one, a test of its own, worked out by hand. */
public final class CycleEdgesTest {
    private static final int FREE = 0;
    private static final int NOT_BEGUN = 1;
    private static final int WORKS = 2;
    private static final int DONE = 3;

    private static final Check CHECK = new Check();

    public static void main(String[] args) {
        addnWrapsAround();
        countAtItsEdges();
        countGoesOnlyToInstructions();
        ifAtEachCode();
        busBringsOneInACycle();
        busSendsNothingBeforeItIsDone();
        busBringsItToAllWhoWait();
        workEndsAtZero();
        storeWritesAtZero();
        bankIsFreeAtOnce();
        adderBeginsOneInACycle();
        adderNeedsTwoValues();
        multiplierWorksOnOne();
        multiplierDoneIsNotWorking();
        storageBeginsOneInACycle();
        earliestOfFreeBanks();
        earliestIsNotTheFirstBuffer();
        noBankIsFree();
        storeWithoutValueDoesNotBegin();
        loadReadsWhenItBegins();
        workedOutWhenItBegins();
        CHECK.end();
    }

    private static Watch started(TagMachine x) {
        x.start(0);
        return new Watch(CHECK, x);
    }

    private static void addnWrapsAround() {
        CHECK.sentence("9 ADDN: Rr = Rs + n");
        TagMachine x = new TagMachine(1, 1);
        Op.setTo(x, 0, Integer.MAX_VALUE);
        Op.addTo(x, 1, 0, 1);
        Op.addTo(x, 2, 1, -1);
        Op.addTo(x, 0, 0, 1000);
        Op.halt(x);
        x.start(0);
        x.run(300);
        CHECK.same("MAX + 1", x.general(1), Integer.MIN_VALUE);
        CHECK.same("MIN - 1", x.general(2), Integer.MAX_VALUE);
        CHECK.same("MAX + 1000", x.general(0), Integer.MIN_VALUE + 999);
    }

    private static void countAtItsEdges() {
        CHECK.sentence("10 COUNT: Rr falls by 1; goes on at instruction n if it is not 0");
        counts(2, 1, true);
        counts(1, 0, false);
        counts(0, -1, true);
        counts(-1, -2, true);
        counts(Integer.MIN_VALUE, Integer.MAX_VALUE, true);
        counts(Integer.MIN_VALUE + 1, Integer.MIN_VALUE, true);
    }

    private static void counts(int from, int to, boolean goesOn) {
        TagMachine x = new TagMachine(1, 1);
        Op.setTo(x, 2, from);
        Op.count(x, 2, 0);
        x.start(0);
        x.run(2);
        CHECK.same("general(2) counted from " + from, x.general(2), to);
        CHECK.same("about(1) counted from " + from, x.about(1), goesOn ? 0 : 2);
    }

    private static void countGoesOnlyToInstructions() {
        CHECK.sentence("no such instruction: 16.");
        int[] wrong = {-1000, -1, 2, 1000};
        for (int n : wrong) {
            TagMachine x = new TagMachine(1, 1);
            Op.count(x, 2, n);
            Op.halt(x);
            Watch w = started(x);
            x.run(1);
            CHECK.same("about(1) behind COUNT to " + n, x.about(1), n);
            CHECK.same("about(2) behind COUNT to " + n, x.about(2), 0);
            w.endsAfter(2, Op.STOPPED);
            w.about(2, 16);
            w.about(5, 1);
        }
    }

    private static void ifAtEachCode() {
        CHECK.sentence("11 IF: goes on at n if the code is r (r 3: always)");
        int[] others = {Op.ONE, Op.TWO, 0};
        for (int code = 0; code <= 2; code++) {
            for (int r = 0; r <= 3; r++) {
                TagMachine x = new TagMachine(1, 1);
                x.set(0, Op.ONE);
                x.set(1, others[code]);
                Op.pair(x, Op.COMP, 0, 1);
                Op.goIf(x, r, 0);
                Op.halt(x);
                Watch w = started(x);
                x.run(5);
                w.about(3, code);
                w.about(1, r == code || r == 3 ? 0 : 2);
            }
        }
    }

    /** Loads hold the bus from cycle 11 to 14, and by then every station is done. */
    private static void busBringsOneInACycle() {
        CHECK.sentence("Of the load buffers 6 .. 9, then the stations 1 .. 5, the first that is DONE sends its result");
        TagMachine x = new TagMachine(8, 8);
        for (int place = 0; place < 4; place++) {
            Op.access(x, Op.LOAD, 3, 0, place);
        }
        Op.pair(x, Op.MUL, 0, 0);
        Op.pair(x, Op.MUL, 1, 1);
        for (int i = 0; i < 3; i++) {
            Op.pair(x, Op.COMP, 2, 2);
        }
        Op.halt(x);
        Watch w = started(x);
        w.to(10).places(1, DONE, WORKS, WORKS, DONE, WORKS, DONE, WORKS, WORKS, WORKS);
        w.to(11).places(1, DONE, DONE, WORKS, DONE, WORKS, FREE, DONE, WORKS, WORKS);
        w.to(14).places(1, DONE, DONE, DONE, DONE, DONE, FREE, FREE, FREE, FREE);
        w.to(15).places(1, FREE, DONE, DONE, DONE, DONE);
        w.to(16).places(1, FREE, FREE, DONE, DONE, DONE);
        w.to(17).places(1, FREE, FREE, FREE, DONE, DONE);
        w.to(18).places(1, FREE, FREE, FREE, FREE, DONE);
        w.endsAfter(19, Op.HALTED);
    }

    /** The bus comes before the work, so what is done in a cycle is sent in the next at the earliest. */
    private static void busSendsNothingBeforeItIsDone() {
        CHECK.sentence("the first that is DONE sends its result");
        TagMachine x = new TagMachine(1, 1);
        x.set(0, Op.ONE);
        Op.pair(x, Op.ADD, 0, 0);
        Op.halt(x);
        Watch w = started(x);
        w.to(4).places(1, DONE);
        w.floating(0, Op.ONE);
        w.tag(0, 1);
        w.endsAfter(5, Op.HALTED);
        w.places(1, FREE);
        w.floating(0, Op.TWO);
        w.tag(0, 0);
    }

    /** The load comes to two registers, both operands of one station, one of another, and a store. */
    private static void busBringsItToAllWhoWait() {
        CHECK.sentence("all operands, stores, F registers and the code that wait for its tag have it then");
        TagMachine x = new TagMachine(8, 8);
        x.store(0, Op.TWO);
        x.set(1, Op.ONE);
        Op.access(x, Op.LOAD, 0, 0, 0);
        Op.pair(x, Op.MOVE, 3, 0);
        Op.access(x, Op.STORE, 0, 0, 1);
        Op.pair(x, Op.MUL, 3, 3);
        Op.pair(x, Op.ADD, 1, 0);
        Op.pair(x, Op.COMP, 0, 2);
        Op.pair(x, Op.MOVE, 2, 0);
        Op.halt(x);
        Watch w = started(x);
        w.to(10);
        w.tag(0, 6);
        w.tag(2, 6);
        w.tag(4, 2);
        w.places(1, NOT_BEGUN, NOT_BEGUN, FREE, NOT_BEGUN, FREE, DONE);
        w.places(10, NOT_BEGUN);
        w.to(11);
        w.tag(0, 0);
        w.tag(2, 0);
        w.floating(0, Op.TWO);
        w.floating(2, Op.TWO);
        w.places(1, WORKS, NOT_BEGUN, FREE, WORKS, FREE, FREE);
        w.places(10, WORKS);
        w.to(15);
        w.tag(4, 0);
        w.about(3, 2);
        w.endsAfter(19, Op.HALTED);
        w.floating(1, Op.THREE);
        w.floating(3, Op.FOUR);
        w.word(1, Op.TWO);
    }

    private static void workEndsAtZero() {
        CHECK.sentence("What WORKS has one cycle less to go; at 0 a station or load buffer is done");
        lasts(Op.ADD, 1, 1, 2);
        lasts(Op.SUB, 1, 1, 2);
        lasts(Op.COMP, 1, 1, 2);
        lasts(Op.MUL, 4, 1, 4);
        lasts(Op.DIV, 4, 1, 8);
        for (int latency = 1; latency <= 8; latency++) {
            lasts(Op.LOAD, 6, latency, latency);
        }
    }

    private static void lasts(int op, int t, int latency, int cycles) {
        TagMachine x = new TagMachine(1, latency);
        x.set(1, Op.ONE);
        x.put(op, 0, 1, 0, 0);
        Op.halt(x);
        Watch w = started(x);
        x.run(1);
        CHECK.same("handed out: op " + op, x.place(t), NOT_BEGUN);
        for (int i = 0; i < cycles; i++) {
            x.run(1);
            CHECK.same("at work: op " + op, x.place(t), WORKS);
        }
        x.run(1);
        CHECK.same("done: op " + op, x.place(t), DONE);
        w.endsAfter(cycles + 3, Op.HALTED);
    }

    private static void storeWritesAtZero() {
        CHECK.sentence("a store writes its value, and is free");
        for (int latency = 1; latency <= 8; latency++) {
            TagMachine x = new TagMachine(1, latency);
            x.set(0, Op.SIX);
            Op.access(x, Op.STORE, 0, 0, 31);
            Op.halt(x);
            Watch w = started(x);
            w.to(latency + 1).places(10, WORKS);
            w.word(31, 0);
            w.endsAfter(latency + 2, Op.HALTED);
            w.places(10, FREE);
            w.word(31, Op.SIX);
        }
    }

    private static void bankIsFreeAtOnce() {
        CHECK.sentence("the bank of a load or store is free.");
        TagMachine x = new TagMachine(1, 1);
        Op.access(x, Op.LOAD, 0, 0, 0);
        Op.access(x, Op.STORE, 1, 0, 1);
        Op.access(x, Op.LOAD, 2, 0, 2);
        Op.halt(x);
        Watch w = started(x);
        w.to(3).places(6, DONE, NOT_BEGUN);
        w.places(10, WORKS);
        w.to(4).places(6, FREE, WORKS);
        w.places(10, FREE);
        w.endsAfter(6, Op.HALTED);
    }

    /** All three have their values in cycle 11. */
    private static void adderBeginsOneInACycle() {
        CHECK.sentence("the first of its stations with two values that neither works nor is done begins");
        TagMachine x = new TagMachine(1, 8);
        Op.access(x, Op.LOAD, 0, 0, 0);
        Op.pair(x, Op.ADD, 1, 0);
        Op.pair(x, Op.SUB, 2, 0);
        Op.pair(x, Op.COMP, 3, 0);
        Op.halt(x);
        Watch w = started(x);
        w.to(10).places(1, NOT_BEGUN, NOT_BEGUN, NOT_BEGUN);
        w.to(11).places(1, WORKS, NOT_BEGUN, NOT_BEGUN);
        w.to(12).places(1, WORKS, WORKS, NOT_BEGUN);
        w.to(13).places(1, DONE, WORKS, WORKS);
        w.endsAfter(16, Op.HALTED);
    }

    /** Stations 1 and 2 each have one value only; 3 has two and goes before them. */
    private static void adderNeedsTwoValues() {
        CHECK.sentence("the first of its stations with two values");
        TagMachine x = new TagMachine(1, 8);
        Op.access(x, Op.LOAD, 0, 0, 0);
        Op.pair(x, Op.COMP, 0, 1);
        Op.pair(x, Op.COMP, 1, 0);
        Op.pair(x, Op.COMP, 1, 1);
        Op.halt(x);
        Watch w = started(x);
        w.to(4).places(1, NOT_BEGUN, NOT_BEGUN, NOT_BEGUN);
        w.to(5).places(1, NOT_BEGUN, NOT_BEGUN, WORKS);
        w.to(10).places(1, NOT_BEGUN, NOT_BEGUN, FREE);
        w.to(11).places(1, WORKS, NOT_BEGUN, FREE);
        w.endsAfter(15, Op.HALTED);
    }

    private static void multiplierWorksOnOne() {
        CHECK.sentence("The multiplier, when none of its stations works: likewise, with 4 (MUL) or 8 (DIV).");
        TagMachine x = new TagMachine(1, 1);
        x.set(1, Op.ONE);
        Op.pair(x, Op.DIV, 0, 1);
        Op.pair(x, Op.MUL, 1, 1);
        Op.halt(x);
        Watch w = started(x);
        w.to(9).places(4, WORKS, NOT_BEGUN);
        w.to(10).places(4, DONE, WORKS);
        w.to(13).places(4, FREE, WORKS);
        w.to(14).places(4, FREE, DONE);
        w.endsAfter(15, Op.HALTED);
    }

    /** Station 4 is done in cycle 6, but loads hold the bus until 10; station 5 works meanwhile. */
    private static void multiplierDoneIsNotWorking() {
        CHECK.sentence("The multiplier, when none of its stations works");
        TagMachine x = new TagMachine(8, 1);
        Op.pair(x, Op.MUL, 0, 0);
        Op.pair(x, Op.MUL, 1, 1);
        Op.setTo(x, 0, 0);
        for (int place = 0; place < 4; place++) {
            Op.access(x, Op.LOAD, 3, 0, place);
        }
        Op.halt(x);
        Watch w = started(x);
        w.to(6).places(4, DONE, WORKS);
        w.to(9).places(4, DONE, WORKS);
        w.to(10).places(4, DONE, DONE);
        w.to(11).places(4, FREE, DONE);
        w.endsAfter(12, Op.HALTED);
    }

    /** In cycle 11 all three have their value, and banks of their own. */
    private static void storageBeginsOneInACycle() {
        CHECK.sentence("is free begins, with the LATENCY to go");
        TagMachine x = new TagMachine(8, 1);
        Op.pair(x, Op.DIV, 0, 1);
        Op.access(x, Op.STORE, 0, 0, 0);
        Op.access(x, Op.STORE, 0, 0, 1);
        Op.access(x, Op.STORE, 0, 0, 2);
        Op.halt(x);
        x.set(1, Op.ONE);
        Watch w = started(x);
        w.to(10).places(10, NOT_BEGUN, NOT_BEGUN, NOT_BEGUN);
        w.to(11).places(10, WORKS, NOT_BEGUN, NOT_BEGUN);
        w.to(12).places(10, FREE, WORKS, NOT_BEGUN);
        w.to(13).places(10, FREE, FREE, WORKS);
        w.endsAfter(14, Op.HALTED);
    }

    /** With 8 banks the places 7, 15 and 31 meet, and 24 is with 0. */
    private static void earliestOfFreeBanks() {
        CHECK.sentence("earliest of those whose BANK (the place modulo the number of banks) is free begins");
        TagMachine x = new TagMachine(8, 6);
        Op.access(x, Op.LOAD, 0, 0, 31);
        Op.access(x, Op.LOAD, 1, 0, 7);
        Op.access(x, Op.STORE, 2, 0, 15);
        Op.access(x, Op.LOAD, 3, 0, 24);
        Op.halt(x);
        Watch w = started(x);
        w.to(4).places(6, WORKS, NOT_BEGUN, NOT_BEGUN, FREE, NOT_BEGUN);
        w.to(5).places(6, WORKS, NOT_BEGUN, WORKS, FREE, NOT_BEGUN);
        w.to(7).places(6, WORKS, NOT_BEGUN, WORKS, FREE, NOT_BEGUN);
        w.to(8).places(6, DONE, WORKS, WORKS, FREE, NOT_BEGUN);
        w.to(14).places(6, FREE, DONE, FREE, FREE, WORKS);
        w.endsAfter(20, Op.HALTED);
    }

    /** The fifth load comes to buffer 6 again, when those in 8, 9 and the store were handed out before it. */
    private static void earliestIsNotTheFirstBuffer() {
        CHECK.sentence("the one that was handed out earliest");
        TagMachine x = new TagMachine(1, 3);
        for (int place = 0; place < 4; place++) {
            Op.access(x, Op.LOAD, 0, 0, place);
        }
        Op.access(x, Op.STORE, 1, 0, 4);
        Op.access(x, Op.LOAD, 0, 0, 5);
        Op.halt(x);
        Watch w = started(x);
        w.to(6).places(6, NOT_BEGUN, WORKS, NOT_BEGUN, NOT_BEGUN, NOT_BEGUN);
        w.to(8).places(6, NOT_BEGUN, DONE, WORKS, NOT_BEGUN, NOT_BEGUN);
        w.to(11).places(6, NOT_BEGUN, FREE, DONE, WORKS, NOT_BEGUN);
        w.to(14).places(6, NOT_BEGUN, FREE, FREE, DONE, WORKS);
        w.to(17).places(6, WORKS, FREE, FREE, FREE, FREE);
        w.endsAfter(21, Op.HALTED);
    }

    private static void noBankIsFree() {
        CHECK.sentence("its bank is not free");
        TagMachine x = new TagMachine(2, 8);
        for (int place = 0; place < 4; place++) {
            Op.access(x, Op.LOAD, 0, 0, place);
        }
        Op.halt(x);
        Watch w = started(x);
        for (int cycle = 5; cycle <= 9; cycle++) {
            w.to(cycle).places(6, WORKS, WORKS, NOT_BEGUN, NOT_BEGUN);
        }
        w.to(10).places(6, DONE, WORKS, WORKS, NOT_BEGUN);
        w.to(11).places(6, FREE, DONE, WORKS, WORKS);
        w.endsAfter(20, Op.HALTED);
    }

    private static void storeWithoutValueDoesNotBegin() {
        CHECK.sentence("of the loads, and stores with a value, that have not begun");
        TagMachine x = new TagMachine(1, 1);
        x.set(1, Op.ONE);
        Op.pair(x, Op.DIV, 0, 1);
        Op.access(x, Op.STORE, 0, 0, 0);
        Op.access(x, Op.STORE, 1, 0, 1);
        Op.access(x, Op.LOAD, 2, 0, 2);
        Op.halt(x);
        Watch w = started(x);
        w.to(4).places(10, NOT_BEGUN, WORKS);
        w.to(5).places(10, NOT_BEGUN, FREE);
        w.places(6, WORKS);
        w.to(10).places(10, NOT_BEGUN);
        w.endsAfter(12, Op.HALTED);
        w.word(1, Op.ONE);
    }

    /** A store to its place comes while the load still works; the word is from before it. */
    private static void loadReadsWhenItBegins() {
        CHECK.sentence("a load reads its word now.");
        TagMachine x = new TagMachine(1, 3);
        x.store(0, Op.ONE);
        x.set(0, Op.TWO);
        Op.access(x, Op.STORE, 0, 0, 0);
        Op.setTo(x, 0, 0);
        Op.setTo(x, 0, 0);
        Op.setTo(x, 0, 0);
        Op.access(x, Op.LOAD, 1, 0, 0);
        Op.access(x, Op.STORE, 3, 0, 0);
        Op.halt(x);
        Watch w = started(x);
        w.to(5);
        w.about(5, 5);
        w.word(0, Op.TWO);
        w.tag(1, 6);
        w.endsAfter(12, Op.HALTED);
        w.floating(1, Op.TWO);
        w.word(0, 0);
    }

    /** F1 changes while the MUL and the STORE of it are at work. */
    private static void workedOutWhenItBegins() {
        CHECK.sentence("What it will give is worked out when it begins.");
        TagMachine x = new TagMachine(1, 8);
        x.set(0, Op.TWO);
        x.set(1, Op.THREE);
        x.set(2, Op.ONE);
        Op.pair(x, Op.MUL, 0, 1);
        Op.access(x, Op.STORE, 1, 0, 0);
        Op.pair(x, Op.MOVE, 1, 2);
        Op.halt(x);
        Watch w = started(x);
        w.to(3);
        w.floating(1, Op.ONE);
        w.endsAfter(11, Op.HALTED);
        w.floating(0, Op.SIX);
        w.word(0, Op.THREE);
    }
}
