/** The edges of handing out, draining and stopping: for each sentence that names one, a test of its own, by hand. */
public final class HandOutEdgesTest {
    private static final int FREE = 0;
    private static final int NOT_BEGUN = 1;
    private static final int WORKS = 2;
    private static final int DONE = 3;

    private static final Check CHECK = new Check();

    public static void main(String[] args) {
        nothingWhileItDrains();
        nothingOnceNoted();
        loadNeedsABuffer();
        loadWaitsForTheStoreToItsPlace();
        anyStoreBufferMayHaveThePlace();
        loadDoesNotWaitForAnUnusedStoreBuffer();
        storeNeedsABuffer();
        storeWaitsForTheStoreToItsPlace();
        storeDoesNotWaitForLoads();
        adderNeedsAStation();
        multiplierNeedsAStation();
        firstFreeIsTaken();
        freedInTheSameCycle();
        inOrder();
        compLeavesItsRegister();
        moveTakesValueOrTag();
        ifNeedsTheCode();
        theOthersAlwaysCan();
        placeTooSmallOrTooLarge();
        placeWrapsAroundToNone();
        placeIsLookedAtFirst();
        wrongPlaceIsNotHandedOut();
        behindTheLastInstruction();
        behindTheThirtieth();
        haltDrains();
        haltAsTheLast();
        eachExceptionDrains();
        exceptionsAddUp();
        theSameExceptionTwice();
        emptyMachineEndsAtOnce();
        endsWhenTheLastIsFree();
        stoppedOrHalted();
        CHECK.end();
    }

    private static Watch started(TagMachine x) {
        x.start(0);
        return new Watch(CHECK, x);
    }

    private static void nothingWhileItDrains() {
        CHECK.sentence("4 HAND OUT, when the machine RUNS");
        TagMachine x = new TagMachine(1, 8);
        Op.access(x, Op.LOAD, 0, 0, 0);
        Op.halt(x);
        Op.setTo(x, 0, 7);
        Watch w = started(x);
        w.to(2).about(0, Op.DRAINS).about(1, 2).about(5, 2);
        w.to(10).about(0, Op.DRAINS).about(1, 2).about(5, 2);
        w.endsAfter(11, Op.HALTED).about(1, 2).about(5, 2).general(0, 0);
    }

    /** The bus brings the exception in cycle 5, before anything could be handed out in it. */
    private static void nothingOnceNoted() {
        CHECK.sentence("4 HAND OUT, when the machine RUNS and nothing was noted");
        TagMachine x = new TagMachine(1, 8);
        x.set(0, Op.LARGEST);
        Op.pair(x, Op.ADD, 0, 0);
        Op.access(x, Op.LOAD, 1, 0, 0);
        Op.addTo(x, 0, 0, 1);
        Op.goIf(x, 3, 2);
        Watch w = started(x);
        w.to(4).about(0, Op.RUNS).about(2, 0).about(5, 4).general(0, 1);
        w.to(5).about(0, Op.DRAINS).about(2, 1).about(5, 4).about(1, 2).general(0, 1);
        w.endsAfter(12, Op.STOPPED).about(5, 4).about(1, 2).general(0, 1);
    }

    /** Loads from one bank begin in cycles 2, 10, 18 and so on, and are sent nine cycles later. */
    private static void loadNeedsABuffer() {
        CHECK.sentence("LOAD: a buffer is free");
        TagMachine x = new TagMachine(1, 8);
        for (int place = 0; place < 5; place++) {
            Op.access(x, Op.LOAD, 0, 0, place);
        }
        Op.halt(x);
        Watch w = started(x);
        w.to(4).about(5, 4).places(6, WORKS, NOT_BEGUN, NOT_BEGUN, NOT_BEGUN).tag(0, 9);
        w.to(10).about(5, 4).about(1, 4).places(6, DONE, WORKS, NOT_BEGUN, NOT_BEGUN).tag(0, 9);
        w.to(11).about(5, 5).about(1, 5).places(6, NOT_BEGUN, WORKS, NOT_BEGUN, NOT_BEGUN).tag(0, 6);
        w.endsAfter(43, Op.HALTED);
    }

    /** The store waits for the ADD until cycle 5 and writes in cycle 7. */
    private static void loadWaitsForTheStoreToItsPlace() {
        CHECK.sentence("LOAD: no store buffer in use has this place");
        TagMachine x = new TagMachine(8, 2);
        x.set(0, Op.ONE);
        Op.pair(x, Op.ADD, 0, 0);
        Op.access(x, Op.STORE, 0, 0, 9);
        Op.access(x, Op.LOAD, 1, 0, 9);
        Op.halt(x);
        Watch w = started(x);
        w.to(4).about(1, 2).places(10, NOT_BEGUN).places(6, FREE);
        w.to(6).about(1, 2).places(10, WORKS).places(6, FREE);
        w.to(7).about(1, 3).places(10, FREE).places(6, NOT_BEGUN).word(9, Op.TWO);
        w.endsAfter(11, Op.HALTED).floating(1, Op.TWO);
    }

    /** All three store buffers wait for the DIV until cycle 11. */
    private static void anyStoreBufferMayHaveThePlace() {
        CHECK.sentence("no store buffer in use has this place");
        for (int place = 4; place <= 7; place++) {
            TagMachine x = new TagMachine(8, 1);
            x.set(1, Op.ONE);
            Op.pair(x, Op.DIV, 0, 1);
            for (int stored = 4; stored <= 6; stored++) {
                Op.access(x, Op.STORE, 0, 0, stored);
            }
            Op.access(x, Op.LOAD, 2, 0, place);
            Op.halt(x);
            Watch w = started(x);
            int handedOut = place == 7 ? 5 : place + 8;
            w.to(handedOut - 1).about(1, 4).places(6, FREE);
            w.to(handedOut).about(1, 5).places(6, NOT_BEGUN);
        }
    }

    private static void loadDoesNotWaitForAnUnusedStoreBuffer() {
        CHECK.sentence("LOAD: no store buffer in use has this place");
        TagMachine fresh = new TagMachine(8, 1);
        Op.access(fresh, Op.LOAD, 0, 0, 0);
        Op.halt(fresh);
        started(fresh).to(1).about(1, 1).places(6, NOT_BEGUN);
        TagMachine x = new TagMachine(8, 1);
        Op.access(x, Op.STORE, 0, 0, 9);
        Op.access(x, Op.STORE, 0, 0, 10);
        Op.halt(x);
        Op.access(x, Op.LOAD, 1, 0, 9);
        Op.access(x, Op.LOAD, 1, 0, 10);
        Op.access(x, Op.STORE, 1, 0, 9);
        Op.halt(x);
        started(x).endsAfter(4, Op.HALTED);
        x.start(3);
        Watch w = new Watch(CHECK, x);
        w.to(5).about(1, 4).to(6).about(1, 5).to(7).about(1, 6);
    }

    private static void storeNeedsABuffer() {
        CHECK.sentence("STORE: a store buffer is free");
        TagMachine x = new TagMachine(1, 4);
        for (int place = 0; place < 4; place++) {
            Op.access(x, Op.STORE, 0, 0, place);
        }
        Op.halt(x);
        Watch w = started(x);
        w.to(3).about(5, 3).places(10, WORKS, NOT_BEGUN, NOT_BEGUN);
        w.to(5).about(5, 3).about(1, 3).places(10, WORKS, NOT_BEGUN, NOT_BEGUN);
        w.to(6).about(5, 4).about(1, 4).places(10, NOT_BEGUN, WORKS, NOT_BEGUN);
        w.endsAfter(18, Op.HALTED);
    }

    private static void storeWaitsForTheStoreToItsPlace() {
        CHECK.sentence("STORE: none in use has this place");
        TagMachine x = new TagMachine(8, 4);
        x.set(0, Op.ONE);
        x.set(1, Op.TWO);
        Op.access(x, Op.STORE, 0, 0, 0);
        Op.access(x, Op.STORE, 1, 0, 0);
        Op.halt(x);
        Watch w = started(x);
        w.to(5).about(1, 1).places(10, WORKS, FREE, FREE).word(0, 0);
        w.to(6).about(1, 2).places(10, NOT_BEGUN, FREE, FREE).word(0, Op.ONE);
        w.endsAfter(11, Op.HALTED).word(0, Op.TWO);
    }

    private static void storeDoesNotWaitForLoads() {
        CHECK.sentence("STORE: none in use has this place");
        TagMachine x = new TagMachine(8, 4);
        x.store(5, Op.ONE);
        x.set(0, Op.TWO);
        Op.access(x, Op.LOAD, 1, 0, 5);
        Op.access(x, Op.STORE, 0, 0, 5);
        Op.halt(x);
        Watch w = started(x);
        w.to(2).about(1, 2).places(6, WORKS).places(10, NOT_BEGUN);
        w.to(6).places(6, DONE).places(10, WORKS);
        w.endsAfter(10, Op.HALTED).floating(1, Op.ONE).word(5, Op.TWO);
    }

    /** What holds F0 is not there before cycle 11. */
    private static void adderNeedsAStation() {
        CHECK.sentence("ADD, SUB, COMP: a station of the adder is free");
        int[] kinds = {Op.ADD, Op.SUB, Op.COMP};
        for (int kind : kinds) {
            TagMachine x = new TagMachine(1, 8);
            Op.access(x, Op.LOAD, 0, 0, 0);
            Op.pair(x, Op.ADD, 1, 0);
            Op.pair(x, Op.SUB, 2, 0);
            Op.pair(x, Op.COMP, 3, 0);
            Op.pair(x, kind, 3, 3);
            Op.halt(x);
            Watch w = started(x);
            w.to(4).about(5, 4).places(1, NOT_BEGUN, NOT_BEGUN, NOT_BEGUN);
            w.to(13).about(5, 4).about(1, 4).places(1, DONE, WORKS, WORKS);
            w.to(14).about(5, 5).about(1, 5).places(1, NOT_BEGUN, DONE, WORKS);
            w.tag(kind == Op.COMP ? 4 : 3, 1);
            w.endsAfter(18, Op.HALTED);
        }
    }

    private static void multiplierNeedsAStation() {
        CHECK.sentence("MUL and DIV: of the multiplier");
        int[] kinds = {Op.MUL, Op.DIV};
        for (int kind : kinds) {
            TagMachine x = new TagMachine(1, 1);
            for (int r = 0; r < 4; r++) {
                x.set(r, Op.ONE);
            }
            Op.pair(x, Op.MUL, 0, 0);
            Op.pair(x, Op.DIV, 1, 1);
            Op.pair(x, kind, 2, 2);
            Op.halt(x);
            Watch w = started(x);
            w.to(6).about(5, 2).about(1, 2).places(4, DONE, WORKS).tag(2, 0);
            w.to(7).about(5, 3).about(1, 3).places(4, NOT_BEGUN, WORKS).tag(2, 4);
            w.endsAfter(kind == Op.MUL ? 19 : 23, Op.HALTED);
        }
    }

    /** Station 2 is the only one in use, then 1 and 2. */
    private static void firstFreeIsTaken() {
        CHECK.sentence("the first is taken");
        TagMachine x = new TagMachine(8, 3);
        Op.pair(x, Op.COMP, 0, 0);
        Op.pair(x, Op.ADD, 1, 1);
        Op.access(x, Op.LOAD, 2, 0, 0);
        Op.access(x, Op.STORE, 3, 0, 1);
        Op.pair(x, Op.COMP, 0, 0);
        Op.pair(x, Op.SUB, 3, 3);
        Op.access(x, Op.LOAD, 0, 0, 2);
        Op.access(x, Op.STORE, 3, 0, 3);
        Op.halt(x);
        Watch w = started(x);
        w.to(1).places(1, NOT_BEGUN, FREE, FREE).tag(4, 1);
        w.to(2).places(1, WORKS, NOT_BEGUN, FREE).tag(1, 2);
        w.to(3).places(6, NOT_BEGUN, FREE, FREE, FREE).tag(2, 6);
        w.to(4).places(10, NOT_BEGUN, FREE, FREE);
        w.to(5).places(1, NOT_BEGUN, DONE, FREE).tag(4, 1);
        w.to(6).places(1, WORKS, NOT_BEGUN, FREE).tag(3, 2);
        w.to(7).places(6, DONE, NOT_BEGUN, FREE, FREE).tag(0, 7);
        w.to(8).places(10, NOT_BEGUN, FREE, FREE);
    }

    private static void freedInTheSameCycle() {
        CHECK.sentence("A CYCLE has four parts, in this order");
        TagMachine x = new TagMachine(1, 1);
        for (int i = 0; i < 4; i++) {
            Op.pair(x, Op.COMP, 0, 0);
        }
        Op.halt(x);
        Watch w = started(x);
        w.to(4).places(1, DONE, WORKS, WORKS).about(5, 3);
        w.to(5).places(1, NOT_BEGUN, DONE, WORKS).about(5, 4);
        w.endsAfter(9, Op.HALTED);
    }

    private static void inOrder() {
        CHECK.sentence("the instruction that is next, if it can be");
        TagMachine x = new TagMachine(1, 1);
        Op.pair(x, Op.MUL, 0, 0);
        Op.pair(x, Op.MUL, 1, 1);
        Op.pair(x, Op.MUL, 2, 2);
        Op.setTo(x, 0, 5);
        Op.halt(x);
        Watch w = started(x);
        w.to(6).about(1, 2).about(5, 2).general(0, 0);
        w.to(7).about(1, 3).about(5, 3).general(0, 0);
        w.to(8).about(1, 4).about(5, 4).general(0, 5);
    }

    private static void compLeavesItsRegister() {
        CHECK.sentence("Fr (COMP: the code) waits for its tag.");
        TagMachine x = new TagMachine(1, 1);
        x.set(1, Op.ONE);
        Op.pair(x, Op.COMP, 1, 2);
        Op.pair(x, Op.ADD, 1, 2);
        Op.halt(x);
        Watch w = started(x);
        w.to(1).tag(1, 0).tag(4, 1);
        w.to(2).tag(1, 2).tag(4, 1);
        w.to(5).tag(1, 2).tag(4, 0).about(3, 2).floating(1, Op.ONE);
    }

    private static void moveTakesValueOrTag() {
        CHECK.sentence("MOVE: Fr has Fs's value or tag.");
        TagMachine x = new TagMachine(1, 1);
        x.set(0, Op.TWO);
        x.set(1, Op.ONE);
        Op.pair(x, Op.MUL, 0, 0);
        x.put(Op.MOVE, 2, 0, 1, 1000);
        Op.pair(x, Op.MOVE, 0, 1);
        Op.pair(x, Op.MOVE, 2, 2);
        Op.pair(x, Op.MOVE, 3, 2);
        Op.halt(x);
        Watch w = started(x);
        w.to(2).tag(2, 4).floating(2, 0).general(0, 0).general(1, 0).general(2, 0);
        w.to(3).tag(0, 0).floating(0, Op.ONE);
        w.to(5).tag(2, 4).tag(3, 4);
        w.endsAfter(7, Op.HALTED).floating(0, Op.ONE).floating(2, Op.FOUR).floating(3, Op.FOUR);
    }

    private static void ifNeedsTheCode() {
        CHECK.sentence("IF: the code has a value.");
        for (int r = 0; r <= 3; r++) {
            TagMachine x = new TagMachine(1, 8);
            x.set(1, Op.ONE);
            x.store(0, Op.ONE);
            Op.access(x, Op.LOAD, 0, 0, 0);
            Op.pair(x, Op.COMP, 0, 1);
            Op.goIf(x, r, 0);
            Op.halt(x);
            Watch w = started(x);
            w.to(13).about(1, 2).about(5, 2).tag(4, 1);
            w.to(14).about(1, r == 0 || r == 3 ? 0 : 3).about(5, 3).tag(4, 0);
        }
    }

    /** All but one load buffer is in use, and the code and all F registers wait. */
    private static void theOthersAlwaysCan() {
        CHECK.sentence("The others always can.");
        TagMachine x = new TagMachine(1, 8);
        for (int place = 0; place < 4; place++) {
            Op.access(x, Op.LOAD, place, 0, place);
        }
        for (int place = 4; place < 7; place++) {
            Op.access(x, Op.STORE, 3, 0, place);
        }
        Op.pair(x, Op.MUL, 1, 3);
        Op.pair(x, Op.DIV, 2, 3);
        Op.setTo(x, 0, 0);
        Op.pair(x, Op.COMP, 1, 3);
        Op.pair(x, Op.ADD, 1, 3);
        Op.pair(x, Op.SUB, 2, 3);
        Op.pair(x, Op.MOVE, 0, 3);
        Op.setTo(x, 0, 7);
        Op.addTo(x, 1, 0, 1);
        Op.count(x, 2, 17);
        Op.halt(x);
        Watch w = started(x);
        w.to(13).about(5, 13).places(1, NOT_BEGUN, NOT_BEGUN, NOT_BEGUN, NOT_BEGUN, NOT_BEGUN);
        w.places(6, FREE, WORKS, NOT_BEGUN, NOT_BEGUN, NOT_BEGUN, NOT_BEGUN, NOT_BEGUN);
        w.to(14).about(5, 14).tag(0, 9);
        w.to(15).about(5, 15).general(0, 7);
        w.to(16).about(5, 16).general(1, 8);
        w.to(17).about(5, 17).general(2, -1).about(1, 17);
        w.to(18).about(5, 18).about(0, Op.DRAINS);
    }

    private static void placeTooSmallOrTooLarge() {
        CHECK.sentence("A place that is not 0 .. 31 (looked at first): exception 8 is noted");
        int[] ops = {Op.LOAD, Op.STORE};
        for (int op : ops) {
            reaches(op, 0, 0, true);
            reaches(op, 0, 31, true);
            reaches(op, 31, 0, true);
            reaches(op, 1000, -1000, true);
            reaches(op, -969, 1000, true);
            reaches(op, 0, -1, false);
            reaches(op, -1, 0, false);
            reaches(op, 0, 32, false);
            reaches(op, 32, 0, false);
            reaches(op, 0, 1000, false);
            reaches(op, 0, -1000, false);
            reaches(op, 999, -1000, false);
            reaches(op, -968, 1000, false);
        }
    }

    private static void reaches(int op, int base, int n, boolean isPlace) {
        TagMachine x = new TagMachine(1, 1);
        Op.setTo(x, 3, base);
        Op.access(x, op, 1, 3, n);
        Op.halt(x);
        x.start(0);
        x.run(300);
        String what = "op " + op + " at " + base + " + " + n;
        CHECK.same("about(2) after " + what, x.about(2), isPlace ? 0 : 8);
        CHECK.same("about(0) after " + what, x.about(0), isPlace ? Op.HALTED : Op.STOPPED);
    }

    private static void placeWrapsAroundToNone() {
        CHECK.sentence("the place Rb + n");
        int[] ops = {Op.LOAD, Op.STORE};
        for (int op : ops) {
            reaches(op, Integer.MAX_VALUE, 1, false);
            reaches(op, Integer.MAX_VALUE, 1000, false);
            reaches(op, Integer.MIN_VALUE, -1, false);
            reaches(op, Integer.MIN_VALUE, -1000, false);
            reaches(op, Integer.MIN_VALUE, 0, false);
            reaches(op, Integer.MAX_VALUE, 0, false);
        }
    }

    private static void placeIsLookedAtFirst() {
        CHECK.sentence("A place that is not 0 .. 31 (looked at first)");
        TagMachine loads = new TagMachine(1, 8);
        for (int place = 0; place < 4; place++) {
            Op.access(loads, Op.LOAD, 0, 0, place);
        }
        Op.access(loads, Op.LOAD, 1, 0, 32);
        Watch w = started(loads);
        w.to(4).about(2, 0).places(6, WORKS, NOT_BEGUN, NOT_BEGUN, NOT_BEGUN);
        w.to(5).about(2, 8).about(0, Op.DRAINS);
        TagMachine stores = new TagMachine(1, 8);
        for (int place = 0; place < 3; place++) {
            Op.access(stores, Op.STORE, 0, 0, place);
        }
        Op.access(stores, Op.STORE, 1, 0, -1);
        Watch v = started(stores);
        v.to(3).about(2, 0).places(10, WORKS, NOT_BEGUN, NOT_BEGUN);
        v.to(4).about(2, 8).about(0, Op.DRAINS);
    }

    private static void wrongPlaceIsNotHandedOut() {
        CHECK.sentence("exception 8 is noted, and it is not handed out");
        int[] ops = {Op.LOAD, Op.STORE};
        for (int op : ops) {
            TagMachine x = new TagMachine(1, 1);
            x.set(1, Op.ONE);
            Op.setTo(x, 0, 0);
            Op.access(x, op, 1, 0, 32);
            Op.halt(x);
            Watch w = started(x);
            w.endsAfter(2, Op.STOPPED).about(1, 1).about(2, 8).about(5, 1).tag(1, 0).floating(1, Op.ONE);
            w.places(6, FREE, FREE, FREE, FREE, FREE, FREE, FREE);
        }
    }

    private static void behindTheLastInstruction() {
        CHECK.sentence("no such instruction: 16.");
        TagMachine x = new TagMachine(1, 1);
        Op.setTo(x, 0, 5);
        Watch w = started(x);
        w.to(1).about(0, Op.RUNS).about(1, 1).about(2, 0).about(5, 1);
        w.endsAfter(2, Op.STOPPED).about(1, 1).about(2, 16).about(5, 1);
    }

    private static void behindTheThirtieth() {
        CHECK.sentence("no such instruction: 16.");
        TagMachine x = new TagMachine(1, 1);
        for (int i = 0; i < 30; i++) {
            Op.addTo(x, 0, 0, 1);
        }
        Watch w = started(x);
        w.to(29).about(0, Op.RUNS).about(1, 29).general(0, 29);
        w.to(30).about(0, Op.RUNS).about(1, 30).general(0, 30).about(2, 0);
        w.endsAfter(31, Op.STOPPED).about(1, 30).about(2, 16).about(5, 30);
    }

    private static void haltDrains() {
        CHECK.sentence("HALT: the machine DRAINS. Then the next one is next (or n).");
        TagMachine x = new TagMachine(1, 8);
        Op.access(x, Op.STORE, 0, 0, 0);
        Op.halt(x);
        Op.setTo(x, 0, 5);
        Watch w = started(x);
        w.to(1).about(0, Op.RUNS).about(1, 1).about(5, 1);
        w.to(2).about(0, Op.DRAINS).about(1, 2).about(5, 2);
        w.endsAfter(10, Op.HALTED).about(1, 2).about(5, 2).general(0, 0);
    }

    private static void haltAsTheLast() {
        CHECK.sentence("HALT: the machine DRAINS. Then the next one is next (or n).");
        TagMachine x = new TagMachine(1, 1);
        for (int i = 0; i < 29; i++) {
            Op.addTo(x, 0, 0, 1);
        }
        Op.halt(x);
        started(x).endsAfter(30, Op.HALTED).about(1, 30).about(2, 0).about(5, 30);
    }

    private static void eachExceptionDrains() {
        CHECK.sentence("When something is noted, the machine DRAINS.");
        drains(1, Op.ADD, Op.LARGEST, Op.LARGEST);
        drains(2, Op.SUB, 0x00100001, Op.SMALLEST);
        drains(1, Op.MUL, Op.LARGEST, Op.LARGEST);
        drains(2, Op.DIV, Op.SMALLEST, Op.LARGEST);
        drains(4, Op.DIV, Op.ONE, 0);
    }

    /** The store waits for the result, so there is something to do when the exception is noted. */
    private static void drains(int due, int op, int a, int b) {
        TagMachine x = new TagMachine(1, 4);
        x.set(0, a);
        x.set(1, b);
        Op.pair(x, op, 0, 1);
        Op.access(x, Op.STORE, 0, 0, 3);
        Op.goIf(x, 3, 2);
        Watch w = started(x);
        int cycles = op == Op.DIV ? 11 : op == Op.MUL ? 7 : 5;
        w.to(cycles - 1).about(0, Op.RUNS).about(2, 0);
        w.to(cycles).about(0, Op.DRAINS).about(2, due).places(10, WORKS);
        w.endsAfter(cycles + 4, Op.STOPPED).about(2, due);
        w.word(3, NumberModel.of(op - Op.ADD, a, b).result);
    }

    private static void exceptionsAddUp() {
        CHECK.sentence("more may be NOTED, added up.");
        addUp(8, true);
        addUp(16, false);
    }

    private static void addUp(int first, boolean withPlace) {
        TagMachine x = new TagMachine(1, 1);
        x.set(0, Op.LARGEST);
        x.set(1, 0x00100001);
        x.set(2, Op.SMALLEST);
        Op.pair(x, Op.ADD, 0, 0);
        Op.pair(x, Op.SUB, 1, 2);
        Op.pair(x, Op.DIV, 3, 3);
        if (withPlace) {
            Op.access(x, Op.LOAD, 3, 0, 32);
        }
        Watch w = started(x);
        w.to(3).about(2, 0).about(0, Op.RUNS);
        w.to(4).about(2, first).about(0, Op.DRAINS);
        w.to(5).about(2, first + 1);
        w.to(6).about(2, first + 1 + 2);
        w.to(12).about(2, first + 1 + 2);
        w.endsAfter(13, Op.STOPPED).about(2, first + 1 + 2 + 4);
    }

    /** 4 and 4 are no 8, which would be another exception. */
    private static void theSameExceptionTwice() {
        CHECK.sentence("An EXCEPTION is 1 OVERFLOW, 2 UNDERFLOW, 4 DIVIDE; more may be NOTED, added up.");
        TagMachine x = new TagMachine(1, 1);
        Op.pair(x, Op.DIV, 0, 1);
        Op.pair(x, Op.DIV, 2, 1);
        Op.halt(x);
        Watch w = started(x);
        w.to(10).about(2, 0).to(11).about(2, 4);
        w.endsAfter(19, Op.STOPPED).about(2, 4);
    }

    private static void emptyMachineEndsAtOnce() {
        CHECK.sentence("At the end of a cycle in which it drains, when all stations and buffers are free");
        TagMachine x = new TagMachine(1, 1);
        Op.halt(x);
        started(x).endsAfter(1, Op.HALTED);
        TagMachine y = new TagMachine(1, 1);
        Op.access(y, Op.LOAD, 0, 0, 32);
        started(y).endsAfter(1, Op.STOPPED);
    }

    /** Each kind of station and buffer alone keeps it from its end. */
    private static void endsWhenTheLastIsFree() {
        CHECK.sentence("when all stations and buffers are free");
        endsWithItsLast(Op.ADD, 5);
        endsWithItsLast(Op.COMP, 5);
        endsWithItsLast(Op.MUL, 7);
        endsWithItsLast(Op.DIV, 11);
        endsWithItsLast(Op.LOAD, 8);
        endsWithItsLast(Op.STORE, 7);
    }

    private static void endsWithItsLast(int op, int cycle) {
        TagMachine x = new TagMachine(1, 5);
        x.set(1, Op.ONE);
        x.put(op, 0, 1, 0, 0);
        Op.halt(x);
        Watch w = started(x);
        w.to(2).about(0, Op.DRAINS);
        w.endsAfter(cycle, Op.HALTED);
        w.places(1, FREE, FREE, FREE, FREE, FREE, FREE, FREE, FREE, FREE, FREE, FREE, FREE);
    }

    private static void stoppedOrHalted() {
        CHECK.sentence("it has STOPPED, if anything was noted, else HALTED.");
        TagMachine x = new TagMachine(1, 1);
        x.set(0, Op.LARGEST);
        Op.pair(x, Op.ADD, 0, 0);
        Op.halt(x);
        Watch w = started(x);
        w.to(2).about(0, Op.DRAINS).about(2, 0);
        w.endsAfter(5, Op.STOPPED).about(2, 1);
        x.start(1);
        w.about(2, 0).endsAfter(6, Op.HALTED).about(2, 0);
    }
}
