/** The parts of a cycle, which promise 4 does: each run was worked out by hand from the document. */
public final class CycleTest {
    private static final Check CHECK = new Check();

    public static void main(String[] args) {
        loadsSendBeforeStations();
        theAdderSendsBeforeTheMultiplier();
        theAdderBeginsOneInACycle();
        theMultiplierWorksOnOne();
        earliestOfFreeBanksBegins();
        earlierThanALowerBuffer();
        storesAndLoadsInOneOrder();
        waitingStoresHoldUpNoLoad();
        loadsReadWhenTheyBegin();
        samePlaceWaitsForItsStore();
        otherPlacesDoNotWait();
        fullStationsHoldUp();
        ifWaitsForTheCode();
        placesAreLookedAtFirst();
        nothingIsHandedOutOnceNoted();
        exceptionsAddUp();
        exceptionsBehindHaltStopIt();
        noSuchInstructionDrains();
        CHECK.end();
    }

    private static void runTo(TagMachine x, int cycle) {
        x.run(cycle - x.about(4));
    }

    private static void places(String when, TagMachine x, int from, int... states) {
        for (int i = 0; i < states.length; i++) {
            CHECK.same("place(" + (from + i) + ") " + when, x.place(from + i), states[i]);
        }
    }

    private static void endsAfter(String what, TagMachine x, int cycle, int mode) {
        x.run(300);
        CHECK.same("cycles of " + what, x.about(4), cycle);
        CHECK.same("about(0) of " + what, x.about(0), mode);
    }

    private static void loadsSendBeforeStations() {
        TagMachine x = new TagMachine(1, 1);
        Op.pair(x, Op.ADD, 0, 1);
        Op.access(x, Op.LOAD, 2, 0, 0);
        Op.halt(x);
        x.start(0);
        runTo(x, 4);
        CHECK.same("place(1) after cycle 4", x.place(1), 3);
        CHECK.same("place(6) after cycle 4", x.place(6), 3);
        runTo(x, 5);
        CHECK.same("place(1) after cycle 5", x.place(1), 3);
        CHECK.same("place(6) after cycle 5", x.place(6), 0);
        endsAfter("a load before a station", x, 6, Op.HALTED);
    }

    private static void theAdderSendsBeforeTheMultiplier() {
        TagMachine x = new TagMachine(1, 1);
        Op.pair(x, Op.MUL, 0, 0);
        Op.setTo(x, 0, 1);
        Op.pair(x, Op.ADD, 1, 1);
        Op.halt(x);
        x.start(0);
        runTo(x, 6);
        places("after cycle 6", x, 1, 3, 0, 0, 3);
        runTo(x, 7);
        places("after cycle 7", x, 1, 0, 0, 0, 3);
        endsAfter("an adder before a multiplier", x, 8, Op.HALTED);
    }

    private static void theAdderBeginsOneInACycle() {
        TagMachine x = new TagMachine(1, 8);
        x.store(0, Op.ONE);
        x.set(1, Op.ONE);
        x.set(2, Op.TWO);
        x.set(3, Op.THREE);
        Op.access(x, Op.LOAD, 0, 0, 0);
        Op.pair(x, Op.ADD, 1, 0);
        Op.pair(x, Op.SUB, 2, 0);
        Op.pair(x, Op.COMP, 3, 0);
        Op.halt(x);
        x.start(0);
        runTo(x, 10);
        places("after cycle 10", x, 1, 1, 1, 1);
        runTo(x, 11);
        places("after cycle 11", x, 1, 2, 1, 1);
        runTo(x, 12);
        places("after cycle 12", x, 1, 2, 2, 1);
        runTo(x, 13);
        places("after cycle 13", x, 1, 3, 2, 2);
        runTo(x, 14);
        places("after cycle 14", x, 1, 0, 3, 2);
        runTo(x, 15);
        places("after cycle 15", x, 1, 0, 0, 3);
        endsAfter("three on the adder", x, 16, Op.HALTED);
        CHECK.same("floating(1)", x.floating(1), Op.TWO);
        CHECK.same("floating(2)", x.floating(2), Op.ONE);
        CHECK.same("about(3)", x.about(3), 2);
    }

    private static void theMultiplierWorksOnOne() {
        TagMachine x = new TagMachine(1, 1);
        x.set(1, Op.ONE);
        Op.pair(x, Op.MUL, 0, 0);
        Op.pair(x, Op.DIV, 1, 1);
        Op.halt(x);
        x.start(0);
        runTo(x, 5);
        places("after cycle 5", x, 4, 2, 1);
        runTo(x, 6);
        places("after cycle 6", x, 4, 3, 2);
        runTo(x, 7);
        places("after cycle 7", x, 4, 0, 2);
        runTo(x, 13);
        places("after cycle 13", x, 4, 0, 2);
        runTo(x, 14);
        places("after cycle 14", x, 4, 0, 3);
        endsAfter("a MUL and a DIV", x, 15, Op.HALTED);
    }

    private static void earliestOfFreeBanksBegins() {
        TagMachine x = new TagMachine(2, 8);
        Op.access(x, Op.LOAD, 0, 0, 0);
        Op.access(x, Op.LOAD, 1, 0, 2);
        Op.access(x, Op.LOAD, 2, 0, 1);
        Op.halt(x);
        x.start(0);
        runTo(x, 3);
        places("after cycle 3", x, 6, 2, 1, 1);
        runTo(x, 4);
        places("after cycle 4", x, 6, 2, 1, 2);
        runTo(x, 10);
        places("after cycle 10", x, 6, 3, 2, 2);
        endsAfter("loads from two banks", x, 19, Op.HALTED);
    }

    /** The fifth load comes to buffer 6 again, but those in 8 and 9 were handed out before it. */
    private static void earlierThanALowerBuffer() {
        TagMachine x = new TagMachine(1, 2);
        for (int place = 0; place < 5; place++) {
            Op.access(x, Op.LOAD, 0, 0, place);
        }
        Op.halt(x);
        x.start(0);
        runTo(x, 4);
        CHECK.same("about(1) after cycle 4", x.about(1), 4);
        runTo(x, 5);
        CHECK.same("about(1) after cycle 5", x.about(1), 5);
        CHECK.same("tag(0) after cycle 5", x.tag(0), 6);
        places("after cycle 5", x, 6, 1, 2, 1, 1);
        runTo(x, 6);
        places("after cycle 6", x, 6, 1, 3, 2, 1);
        runTo(x, 8);
        places("after cycle 8", x, 6, 1, 0, 3, 2);
        runTo(x, 10);
        places("after cycle 10", x, 6, 2, 0, 0, 3);
        endsAfter("five loads", x, 13, Op.HALTED);
    }

    private static void storesAndLoadsInOneOrder() {
        TagMachine x = new TagMachine(1, 3);
        Op.access(x, Op.LOAD, 0, 0, 0);
        Op.access(x, Op.STORE, 1, 0, 1);
        Op.access(x, Op.LOAD, 2, 0, 2);
        Op.halt(x);
        x.start(0);
        runTo(x, 5);
        places("after cycle 5", x, 6, 3, 1, 0, 0, 2);
        runTo(x, 8);
        places("after cycle 8", x, 6, 0, 2, 0, 0, 0);
        endsAfter("a store between loads", x, 12, Op.HALTED);
    }

    private static void waitingStoresHoldUpNoLoad() {
        TagMachine x = new TagMachine(1, 2);
        Op.pair(x, Op.MUL, 0, 0);
        Op.access(x, Op.STORE, 0, 0, 1);
        Op.access(x, Op.LOAD, 1, 0, 0);
        Op.halt(x);
        x.start(0);
        runTo(x, 4);
        CHECK.same("place(6) after cycle 4", x.place(6), 2);
        CHECK.same("place(10) after cycle 4", x.place(10), 1);
        runTo(x, 7);
        CHECK.same("place(10) after cycle 7", x.place(10), 1);
        runTo(x, 8);
        CHECK.same("place(10) after cycle 8", x.place(10), 2);
        endsAfter("a store that waits", x, 10, Op.HALTED);
    }

    /** The load is the earlier of the two, so it has the word from before the store. */
    private static void loadsReadWhenTheyBegin() {
        TagMachine x = new TagMachine(8, 8);
        x.store(9, Op.ONE);
        x.set(0, Op.TWO);
        Op.access(x, Op.LOAD, 1, 0, 9);
        Op.access(x, Op.STORE, 0, 0, 9);
        Op.halt(x);
        x.start(0);
        runTo(x, 2);
        CHECK.same("place(10) after cycle 2", x.place(10), 1);
        endsAfter("a load and then a store", x, 18, Op.HALTED);
        CHECK.same("floating(1)", x.floating(1), Op.ONE);
        CHECK.same("word(9)", x.word(9), Op.TWO);
    }

    private static void samePlaceWaitsForItsStore() {
        TagMachine x = new TagMachine(8, 3);
        x.set(0, Op.SIX);
        x.set(1, Op.TWO);
        Op.access(x, Op.STORE, 0, 0, 9);
        Op.access(x, Op.LOAD, 3, 0, 9);
        Op.access(x, Op.STORE, 1, 0, 9);
        Op.access(x, Op.STORE, 0, 0, 9);
        Op.halt(x);
        x.start(0);
        runTo(x, 4);
        CHECK.same("about(1) after cycle 4", x.about(1), 1);
        runTo(x, 5);
        CHECK.same("about(1) after cycle 5", x.about(1), 2);
        runTo(x, 6);
        CHECK.same("about(1) after cycle 6", x.about(1), 3);
        CHECK.same("place(10) after cycle 6", x.place(10), 1);
        runTo(x, 9);
        CHECK.same("place(10) after cycle 9", x.place(10), 2);
        runTo(x, 11);
        CHECK.same("about(1) after cycle 11", x.about(1), 3);
        runTo(x, 12);
        CHECK.same("about(1) after cycle 12", x.about(1), 4);
        CHECK.same("word(9) after cycle 12", x.word(9), Op.TWO);
        endsAfter("stores at one place", x, 16, Op.HALTED);
        CHECK.same("floating(3)", x.floating(3), Op.SIX);
        CHECK.same("word(9)", x.word(9), Op.SIX);
    }

    private static void otherPlacesDoNotWait() {
        TagMachine x = new TagMachine(1, 8);
        for (int place = 0; place < 4; place++) {
            Op.access(x, Op.STORE, 0, 0, place);
        }
        Op.access(x, Op.LOAD, 1, 0, 4);
        Op.halt(x);
        x.start(0);
        runTo(x, 9);
        CHECK.same("about(1) with all store buffers in use", x.about(1), 3);
        runTo(x, 10);
        CHECK.same("about(1) after cycle 10", x.about(1), 4);
        runTo(x, 11);
        CHECK.same("about(1) after cycle 11", x.about(1), 5);
        CHECK.same("tag(1) after cycle 11", x.tag(1), 6);
    }

    private static void fullStationsHoldUp() {
        TagMachine x = new TagMachine(1, 1);
        for (int i = 0; i < 4; i++) {
            Op.pair(x, Op.ADD, 0, 0);
        }
        for (int i = 0; i < 3; i++) {
            Op.pair(x, Op.MUL, 1, 1);
        }
        Op.halt(x);
        x.set(0, Op.ONE);
        x.start(0);
        runTo(x, 4);
        CHECK.same("about(1) after cycle 4", x.about(1), 3);
        runTo(x, 5);
        CHECK.same("about(1) after cycle 5", x.about(1), 4);
        CHECK.same("tag(0) after cycle 5", x.tag(0), 1);
        runTo(x, 11);
        CHECK.same("about(1) after cycle 11", x.about(1), 6);
        runTo(x, 12);
        CHECK.same("about(1) after cycle 12", x.about(1), 7);
        CHECK.same("tag(1) after cycle 12", x.tag(1), 4);
        CHECK.same("about(5) after cycle 12", x.about(5), 7);
        x.run(300);
        CHECK.same("floating(0)", x.floating(0), 0x42100000);
    }

    private static void ifWaitsForTheCode() {
        for (int code = 0; code <= 3; code++) {
            TagMachine x = new TagMachine(1, 1);
            x.set(0, Op.ONE);
            Op.pair(x, Op.COMP, 0, 1);
            Op.goIf(x, code, 7);
            Op.halt(x);
            x.start(0);
            runTo(x, 4);
            CHECK.same("about(1) before the code is there, IF " + code, x.about(1), 1);
            runTo(x, 5);
            CHECK.same("about(1) when it is, IF " + code, x.about(1), code >= 2 ? 7 : 2);
        }
    }

    private static void placesAreLookedAtFirst() {
        TagMachine x = new TagMachine(1, 8);
        for (int place = 0; place < 4; place++) {
            Op.access(x, Op.LOAD, 0, 0, place);
        }
        Op.access(x, Op.LOAD, 1, 0, 32);
        Op.halt(x);
        x.start(0);
        runTo(x, 5);
        CHECK.same("about(0) after cycle 5", x.about(0), Op.DRAINS);
        CHECK.same("about(1) after cycle 5", x.about(1), 4);
        CHECK.same("about(2) after cycle 5", x.about(2), 8);
        CHECK.same("about(5) after cycle 5", x.about(5), 4);
        CHECK.same("tag(1) after cycle 5", x.tag(1), 0);
        endsAfter("four loads and a wrong one", x, 35, Op.STOPPED);
        CHECK.same("about(1) at the end", x.about(1), 4);
    }

    /** In cycle 11 the bus brings the exception, so ten instructions are handed out. */
    private static void nothingIsHandedOutOnceNoted() {
        TagMachine x = new TagMachine(1, 1);
        Op.pair(x, Op.DIV, 0, 1);
        Op.addTo(x, 0, 0, 1);
        Op.goIf(x, 3, 1);
        x.start(0);
        endsAfter("a loop that a DIV ends", x, 11, Op.STOPPED);
        CHECK.same("about(2)", x.about(2), 4);
        CHECK.same("about(5)", x.about(5), 10);
        CHECK.same("general(0)", x.general(0), 5);
    }

    private static void exceptionsAddUp() {
        TagMachine x = new TagMachine(1, 1);
        x.set(2, Op.LARGEST);
        Op.pair(x, Op.DIV, 0, 1);
        for (int i = 0; i < 7; i++) {
            Op.setTo(x, 0, i);
        }
        Op.pair(x, Op.ADD, 2, 2);
        Op.goIf(x, 3, 9);
        x.start(0);
        runTo(x, 11);
        CHECK.same("about(2) after cycle 11", x.about(2), 4);
        CHECK.same("about(0) after cycle 11", x.about(0), Op.DRAINS);
        endsAfter("a DIV and an ADD", x, 13, Op.STOPPED);
        CHECK.same("about(2) at the end", x.about(2), 5);
        TagMachine y = new TagMachine(1, 1);
        Op.pair(y, Op.DIV, 0, 1);
        Op.pair(y, Op.DIV, 2, 1);
        Op.halt(y);
        y.start(0);
        endsAfter("two DIVs", y, 19, Op.STOPPED);
        CHECK.same("about(2) of two DIVs", y.about(2), 4);
    }

    private static void exceptionsBehindHaltStopIt() {
        TagMachine x = new TagMachine(1, 4);
        x.set(0, Op.LARGEST);
        Op.pair(x, Op.ADD, 0, 0);
        Op.access(x, Op.STORE, 0, 0, 6);
        Op.halt(x);
        x.start(0);
        runTo(x, 4);
        CHECK.same("about(0) after cycle 4", x.about(0), Op.DRAINS);
        CHECK.same("about(2) after cycle 4", x.about(2), 0);
        runTo(x, 5);
        CHECK.same("about(0) after cycle 5", x.about(0), Op.DRAINS);
        CHECK.same("about(2) after cycle 5", x.about(2), 1);
        endsAfter("what was handed out", x, 9, Op.STOPPED);
        CHECK.sameNumber("word(6)", x.word(6), 0x001FFFFF);
        CHECK.same("about(1)", x.about(1), 3);
    }

    private static void noSuchInstructionDrains() {
        TagMachine x = new TagMachine(1, 1);
        Op.pair(x, Op.ADD, 0, 0);
        x.start(0);
        runTo(x, 2);
        CHECK.same("about(0) after cycle 2", x.about(0), Op.DRAINS);
        CHECK.same("about(1) after cycle 2", x.about(1), 1);
        CHECK.same("about(2) after cycle 2", x.about(2), 16);
        endsAfter("a program without HALT", x, 5, Op.STOPPED);
        CHECK.same("about(5)", x.about(5), 1);
    }
}
