import java.util.function.Consumer;

/** The edges of the calls: for each sentence of the promises that names one, a test of its own. */
public final class CallEdgesTest {
    private static final int MIN = Integer.MIN_VALUE;
    private static final int MAX = Integer.MAX_VALUE;
    private static final String[] STATES = {
        "a new one", "one that runs", "one that drains", "one that halted", "one that stopped",
    };
    private static final int NEW = 0;
    private static final int BUSY_FROM = 1;
    private static final int BUSY_TO = 2;

    private static final Check CHECK = new Check();

    public static void main(String[] args) {
        banksAreClipped();
        latencyIsClipped();
        newHasNoInstructions();
        putOfNoOp();
        putOfNoRegister();
        putTooFar();
        putSetTakesAnyInt();
        putAnswersItsNumber();
        putWhenFull();
        putWhileBusy();
        startOfNoInstruction();
        startWhileBusy();
        startNotesNothing();
        startLeavesRegisters();
        runTooFewOrTooMany();
        runAtRest();
        runFewer();
        runThreeHundred();
        setOfNoRegister();
        setWhileBusy();
        setTakesAnyInt();
        storeAtNoPlace();
        storeWhileBusy();
        storeTakesAnyInt();
        reckonOfNoHow();
        exceptionsOfNoHow();
        reckoningChangesNothing();
        bothExceptions();
        floatingOfNoRegister();
        floatingWhileItWaits();
        generalOfNoRegister();
        wordOfNoPlace();
        tagOfNoneSuch();
        tagZeroForNone();
        placeOfNoneSuch();
        placeInEachState();
        aboutNothing();
        aboutEachState();
        aboutTheCodeWhileItWaits();
        aboutHandedOut();
        lookingChangesNothing();
        fiveHundredAndTwelveCalls();
        CHECK.end();
    }

    /** In each state of the document, with something in registers and words, and work under way if it is busy. */
    private static TagMachine in(int state) {
        TagMachine x = new TagMachine(2, 3);
        if (state == NEW) {
            return x;
        }
        for (int r = 0; r < 4; r++) {
            x.set(r, Op.ONE + r);
        }
        for (int place = 0; place < 32; place++) {
            x.store(place, Op.TWO + place);
        }
        Op.setTo(x, 1, 5);
        Op.access(x, Op.LOAD, 0, 1, 0);
        Op.pair(x, Op.MUL, 0, 1);
        Op.pair(x, Op.COMP, 2, 3);
        Op.access(x, Op.STORE, 0, 1, 1);
        boolean stops = STATES[state].endsWith("stopped");
        Op.pair(x, Op.DIV, 2, 3);
        if (stops) {
            Op.access(x, Op.LOAD, 0, 0, -1);
        } else {
            Op.setTo(x, 3, 9);
        }
        Op.halt(x);
        x.start(0);
        x.run(state == BUSY_FROM ? 5 : state == BUSY_TO ? 9 : 300);
        CHECK.same("about(0) of " + STATES[state], x.about(0), state - 1);
        return x;
    }

    private static boolean isBusy(int state) {
        return state >= BUSY_FROM && state <= BUSY_TO;
    }

    /** The call is refused, and neither what is seen nor what comes later is another for it. */
    private static void refused(String call, int state, boolean badArgument, Consumer<TagMachine> action) {
        String what = call + " of " + STATES[state];
        TagMachine x = in(state);
        TagMachine twin = in(state);
        if (badArgument) {
            CHECK.badArgument(what, () -> action.accept(x));
        } else {
            CHECK.badState(what, () -> action.accept(x));
        }
        CHECK.same("what is seen after " + what, Look.at(x), Look.at(twin));
        if (isBusy(state)) {
            x.run(300);
            twin.run(300);
            CHECK.same("what is seen at the end after " + what, Look.at(x), Look.at(twin));
        }
        CHECK.same("put after " + what, x.put(Op.HALT, 0, 0, 0, 0), twin.put(Op.HALT, 0, 0, 0, 0));
    }

    private static void badArgument(String call, Consumer<TagMachine> action) {
        for (int state = 0; state < STATES.length; state++) {
            refused(call, state, true, action);
        }
    }

    private static void badWhileBusy(String call, Consumer<TagMachine> action) {
        for (int state = BUSY_FROM; state <= BUSY_TO; state++) {
            refused(call, state, false, action);
        }
    }

    private static void banksAreClipped() {
        CHECK.sentence("banks and latency are clipped to 1 .. 8.");
        int[] given = {MIN, -1, 0, 1, 2, 7, 8, 9, MAX};
        int[] due = {1, 1, 1, 1, 2, 7, 8, 8, 8};
        for (int i = 0; i < given.length; i++) {
            for (int place = 1; place < 32; place++) {
                TagMachine x = new TagMachine(given[i], 8);
                Op.access(x, Op.LOAD, 0, 0, 0);
                Op.access(x, Op.LOAD, 0, 0, place);
                Op.halt(x);
                x.start(0);
                x.run(3);
                CHECK.same("banks " + given[i] + ", place " + place, x.place(7), place % due[i] == 0 ? 1 : 2);
            }
        }
    }

    private static void latencyIsClipped() {
        CHECK.sentence("banks and latency are clipped to 1 .. 8.");
        int[] given = {MIN, -1, 0, 1, 2, 7, 8, 9, MAX};
        int[] due = {1, 1, 1, 1, 2, 7, 8, 8, 8};
        for (int i = 0; i < given.length; i++) {
            TagMachine x = new TagMachine(1, given[i]);
            Op.access(x, Op.STORE, 0, 0, 0);
            Op.halt(x);
            x.start(0);
            CHECK.same("cycles of a store, latency " + given[i], x.run(300), 2 + due[i]);
        }
    }

    private static void newHasNoInstructions() {
        CHECK.sentence("No instructions; HALTED.");
        TagMachine x = new TagMachine(4, 4);
        CHECK.same("about(6)", x.about(6), 0);
        CHECK.same("about(0)", x.about(0), Op.HALTED);
        CHECK.badArgument("start(0)", () -> x.start(0));
        CHECK.badState("run(1)", () -> x.run(1));
        CHECK.same("the first put", x.put(Op.HALT, 0, 0, 0, 0), 0);
    }

    private static void putOfNoOp() {
        CHECK.sentence("IllegalArgumentException: op is not 0 .. 12");
        int[] wrong = {MIN, -1, 13, MAX};
        for (int op : wrong) {
            badArgument("put of op " + op, x -> x.put(op, 0, 0, 0, 0));
        }
        TagMachine x = new TagMachine(1, 1);
        CHECK.same("put of op 0", x.put(0, 0, 0, 0, 0), 0);
        CHECK.same("put of op 12", x.put(12, 0, 0, 0, 0), 1);
    }

    private static void putOfNoRegister() {
        CHECK.sentence("r, s or b is not 0 .. 3");
        int[] wrong = {MIN, -1, 4, MAX};
        for (int i : wrong) {
            badArgument("put with r " + i, x -> x.put(Op.SET, i, 0, 0, 0));
            badArgument("put with s " + i, x -> x.put(Op.LOAD, 0, i, 0, 0));
            badArgument("put with b " + i, x -> x.put(Op.HALT, 0, 0, i, 0));
        }
        TagMachine x = new TagMachine(1, 1);
        CHECK.same("put with 0, 3, 0", x.put(Op.ADD, 0, 3, 0, 0), 0);
        CHECK.same("put with 3, 0, 3", x.put(Op.ADD, 3, 0, 3, 0), 1);
    }

    private static void putTooFar() {
        CHECK.sentence("or n is not -1000 .. 1000 (for SET any int).");
        int[] wrong = {MIN, -1001, 1001, MAX};
        for (int op = 0; op <= 12; op++) {
            int kind = op;
            for (int n : wrong) {
                if (op != Op.SET) {
                    badArgument("put of op " + op + " with n " + n, x -> x.put(kind, 0, 0, 0, n));
                }
            }
            TagMachine x = new TagMachine(1, 1);
            CHECK.same("put of op " + op + " with n -1000", x.put(op, 0, 0, 0, -1000), 0);
            CHECK.same("put of op " + op + " with n 1000", x.put(op, 0, 0, 0, 1000), 1);
        }
    }

    private static void putSetTakesAnyInt() {
        CHECK.sentence("(for SET any int)");
        int[] any = {MIN, -1001, -1000, 0, 1000, 1001, MAX};
        for (int n : any) {
            TagMachine x = new TagMachine(1, 1);
            CHECK.same("put of SET with n " + n, x.put(Op.SET, 2, 0, 0, n), 0);
            x.start(0);
            x.run(1);
            CHECK.same("general(2)", x.general(2), n);
        }
    }

    private static void putAnswersItsNumber() {
        CHECK.sentence("Appends an instruction; answers its number.");
        TagMachine x = new TagMachine(1, 1);
        for (int i = 0; i < 30; i++) {
            CHECK.same("about(6) before a put", x.about(6), i);
            CHECK.same("put", x.put(Op.ADDN, 0, 0, 0, i), i);
        }
        CHECK.same("about(6)", x.about(6), 30);
    }

    private static void putWhenFull() {
        CHECK.sentence("IllegalStateException: there are 30");
        TagMachine x = new TagMachine(1, 1);
        for (int i = 0; i < 29; i++) {
            Op.addTo(x, 0, 0, 1);
        }
        CHECK.same("the 30th put", x.put(Op.HALT, 0, 0, 0, 0), 29);
        for (int op = 0; op <= 12; op++) {
            int kind = op;
            CHECK.badState("the 31st put", () -> x.put(kind, 0, 0, 0, 0));
        }
        CHECK.same("about(6)", x.about(6), 30);
        x.start(0);
        CHECK.same("run(300)", x.run(300), 30);
        CHECK.same("general(0)", x.general(0), 29);
        CHECK.badState("the 31st put after it halted", () -> x.put(Op.HALT, 0, 0, 0, 0));
    }

    private static void putWhileBusy() {
        CHECK.sentence("IllegalStateException: there are 30, or it runs or drains.");
        badWhileBusy("put", x -> x.put(Op.HALT, 0, 0, 0, 0));
        CHECK.same("put of one that halted", in(3).put(Op.HALT, 0, 0, 0, 0), 8);
        CHECK.same("put of one that stopped", in(4).put(Op.HALT, 0, 0, 0, 0), 8);
    }

    private static void startOfNoInstruction() {
        CHECK.sentence("IllegalArgumentException: there is no such instruction.");
        int[] wrong = {MIN, -1, 8, 30, MAX};
        for (int at : wrong) {
            badArgument("start(" + at + ")", x -> x.start(at));
        }
        refused("start(0)", NEW, true, x -> x.start(0));
        CHECK.same("start(0) of eight", in(3).start(0), true);
        CHECK.same("start(7) of eight", in(3).start(7), true);
        TagMachine full = new TagMachine(1, 1);
        for (int i = 0; i < 30; i++) {
            Op.halt(full);
        }
        CHECK.badArgument("start(30) of thirty", () -> full.start(30));
        CHECK.same("start(29) of thirty", full.start(29), true);
        CHECK.same("about(1)", full.about(1), 29);
    }

    private static void startWhileBusy() {
        CHECK.sentence("start: IllegalStateException: it runs or drains.");
        badWhileBusy("start(0)", x -> x.start(0));
        badWhileBusy("start(7)", x -> x.start(7));
        CHECK.same("start of one that halted", in(3).start(0), true);
        CHECK.same("start of one that stopped", in(4).start(0), true);
    }

    private static void startNotesNothing() {
        CHECK.sentence("nothing is noted, the machine runs");
        TagMachine x = in(4);
        CHECK.same("about(2) before start", x.about(2), 8);
        x.start(7);
        CHECK.same("about(2)", x.about(2), 0);
        CHECK.same("about(0)", x.about(0), Op.RUNS);
        CHECK.same("run(300)", x.run(300), 1);
        CHECK.same("about(0) at the end", x.about(0), Op.HALTED);
    }

    private static void startLeavesRegisters() {
        CHECK.sentence("registers stay: true.");
        for (int state = 3; state <= 4; state++) {
            TagMachine x = in(state);
            TagMachine twin = in(state);
            CHECK.same("start(2)", x.start(2), true);
            for (int r = 0; r < 4; r++) {
                CHECK.sameNumber("floating(" + r + ")", x.floating(r), twin.floating(r));
                CHECK.same("general(" + r + ")", x.general(r), twin.general(r));
            }
            for (int place = 0; place < 32; place++) {
                CHECK.sameNumber("word(" + place + ")", x.word(place), twin.word(place));
            }
            for (int what = 3; what <= 6; what++) {
                CHECK.same("about(" + what + ")", x.about(what), twin.about(what));
            }
            CHECK.same("about(3)", x.about(3), 1);
        }
    }

    private static void runTooFewOrTooMany() {
        CHECK.sentence("IllegalArgumentException: n is not 1 .. 300.");
        int[] wrong = {MIN, -1, 0, 301, MAX};
        for (int n : wrong) {
            badArgument("run(" + n + ")", x -> x.run(n));
        }
        CHECK.same("run(1)", Op.running().run(1), 1);
        CHECK.same("run(300)", Op.running().run(300), 300);
    }

    private static void runAtRest() {
        CHECK.sentence("IllegalStateException: it neither runs nor drains.");
        int[] rest = {0, 3, 4};
        for (int state : rest) {
            refused("run(1)", state, false, x -> x.run(1));
            refused("run(300)", state, false, x -> x.run(300));
        }
        CHECK.same("run(1) while it runs", in(1).run(1), 1);
        CHECK.same("run(1) while it drains", in(2).run(1), 1);
    }

    private static void runFewer() {
        CHECK.sentence("n cycles, fewer if it halts or stops. Answers how many.");
        CHECK.same("run(300) of a draining one", Op.draining().run(300), 8);
        CHECK.same("run(9) of a draining one", Op.draining().run(9), 8);
        CHECK.same("run(8) of a draining one", Op.draining().run(8), 8);
        CHECK.same("run(7) of a draining one", Op.draining().run(7), 7);
        TagMachine stops = new TagMachine(1, 1);
        Op.setTo(stops, 0, 0);
        stops.start(0);
        CHECK.same("run(2) behind the last instruction", stops.run(2), 2);
        stops.start(0);
        CHECK.same("run(3) behind the last instruction", stops.run(3), 2);
    }

    /** A SET and 299 COUNTs: the 300th cycle is the last that hands out. */
    private static void runThreeHundred() {
        CHECK.sentence("n cycles, fewer if it halts or stops. Answers how many.");
        TagMachine x = new TagMachine(1, 1);
        Op.setTo(x, 0, 299);
        Op.count(x, 0, 1);
        x.start(0);
        CHECK.same("run(300) of a loop", x.run(300), 300);
        CHECK.same("general(0)", x.general(0), 0);
        CHECK.same("about(0)", x.about(0), Op.RUNS);
        CHECK.same("run(300) behind it", x.run(300), 1);
        CHECK.same("about(0) behind it", x.about(0), Op.STOPPED);
    }

    private static void setOfNoRegister() {
        CHECK.sentence("IllegalArgumentException: r is not 0 .. 3.");
        int[] wrong = {MIN, -1, 4, MAX};
        for (int r : wrong) {
            badArgument("set(" + r + ", 7)", x -> x.set(r, 7));
        }
        CHECK.same("set(0)", in(0).set(0, 7), true);
        CHECK.same("set(3)", in(0).set(3, 7), true);
    }

    private static void setWhileBusy() {
        CHECK.sentence("set: IllegalStateException: it runs or drains.");
        badWhileBusy("set(0, 7)", x -> x.set(0, 7));
        badWhileBusy("set(3, 7)", x -> x.set(3, 7));
        for (int state = 3; state <= 4; state++) {
            TagMachine x = in(state);
            CHECK.same("set of " + STATES[state], x.set(3, 7), true);
            CHECK.same("floating(3)", x.floating(3), 7);
        }
    }

    private static void setTakesAnyInt() {
        CHECK.sentence("Register Fr becomes v: true.");
        int[] any = {MIN, -1, 0, 1, MAX};
        for (int v : any) {
            for (int r = 0; r < 4; r++) {
                TagMachine x = in(3);
                CHECK.same("set(" + r + ", " + v + ")", x.set(r, v), true);
                CHECK.same("floating(" + r + ")", x.floating(r), v);
                CHECK.same("tag(" + r + ")", x.tag(r), 0);
            }
        }
    }

    private static void storeAtNoPlace() {
        CHECK.sentence("IllegalArgumentException: there is no such place.");
        int[] wrong = {MIN, -1, 32, MAX};
        for (int place : wrong) {
            badArgument("store(" + place + ", 7)", x -> x.store(place, 7));
        }
        CHECK.same("store(0)", in(0).store(0, 7), true);
        CHECK.same("store(31)", in(0).store(31, 7), true);
    }

    private static void storeWhileBusy() {
        CHECK.sentence("store: IllegalStateException: it runs or drains.");
        badWhileBusy("store(0, 7)", x -> x.store(0, 7));
        badWhileBusy("store(31, 7)", x -> x.store(31, 7));
        for (int state = 3; state <= 4; state++) {
            TagMachine x = in(state);
            CHECK.same("store of " + STATES[state], x.store(31, 7), true);
            CHECK.same("word(31)", x.word(31), 7);
        }
    }

    private static void storeTakesAnyInt() {
        CHECK.sentence("A word of storage becomes v: true.");
        int[] any = {MIN, -1, 0, 1, MAX};
        for (int v : any) {
            for (int place = 0; place < 32; place += 31) {
                TagMachine x = in(3);
                CHECK.same("store(" + place + ", " + v + ")", x.store(place, v), true);
                CHECK.same("word(" + place + ")", x.word(place), v);
            }
        }
    }

    private static void reckonOfNoHow() {
        CHECK.sentence("reckon: IllegalArgumentException: how is not 0 .. 4.");
        int[] wrong = {MIN, -1, 5, MAX};
        for (int how : wrong) {
            badArgument("reckon(" + how + ", 1, 1)", x -> x.reckon(how, 1, 1));
        }
        TagMachine x = new TagMachine(1, 1);
        CHECK.sameNumber("reckon(0)", x.reckon(0, Op.THREE, Op.TWO), 0x41500000);
        CHECK.sameNumber("reckon(1)", x.reckon(1, Op.THREE, Op.TWO), Op.ONE);
        CHECK.sameNumber("reckon(2)", x.reckon(2, Op.THREE, Op.TWO), Op.SIX);
        CHECK.sameNumber("reckon(3)", x.reckon(3, Op.THREE, Op.TWO), 0x41180000);
        CHECK.same("reckon(4)", x.reckon(4, Op.THREE, Op.TWO), 2);
    }

    private static void exceptionsOfNoHow() {
        CHECK.sentence("The exceptions of that, 0 for how 4. IllegalArgumentException as there.");
        int[] wrong = {MIN, -1, 5, MAX};
        for (int how : wrong) {
            badArgument("exceptions(" + how + ", 1, 1)", x -> x.exceptions(how, 1, 1));
        }
        TagMachine x = new TagMachine(1, 1);
        CHECK.same("exceptions(0)", x.exceptions(0, Op.LARGEST, Op.LARGEST), 1);
        CHECK.same("exceptions(1)", x.exceptions(1, 0x00100001, Op.SMALLEST), 2);
        CHECK.same("exceptions(2)", x.exceptions(2, Op.SMALLEST, Op.SMALLEST), 2);
        CHECK.same("exceptions(3)", x.exceptions(3, Op.ONE, 0), 4);
        CHECK.same("exceptions(4)", x.exceptions(4, Op.LARGEST, 0), 0);
        CHECK.same("exceptions(0) of one and one", x.exceptions(0, Op.ONE, Op.ONE), 0);
    }

    private static void reckoningChangesNothing() {
        CHECK.sentence("Nothing is promised beyond the answers and state changes described above");
        for (int state = 0; state < STATES.length; state++) {
            TagMachine x = in(state);
            TagMachine twin = in(state);
            for (int how = 0; how <= 4; how++) {
                x.reckon(how, Op.LARGEST, Op.LARGEST);
                x.exceptions(how, Op.ONE, 0);
            }
            CHECK.same("what is seen of " + STATES[state], Look.at(x), Look.at(twin));
            if (isBusy(state)) {
                x.run(300);
                twin.run(300);
                CHECK.same("what is seen at the end of " + STATES[state], Look.at(x), Look.at(twin));
            }
        }
    }

    private static void bothExceptions() {
        CHECK.sentence("Where both exceptions of a call apply, IllegalArgumentException is thrown.");
        for (int state = BUSY_FROM; state <= BUSY_TO; state++) {
            refused("put of op 13", state, true, x -> x.put(13, 0, 0, 0, 0));
            refused("put with b 4", state, true, x -> x.put(0, 0, 0, 4, 0));
            refused("put with n 1001", state, true, x -> x.put(0, 0, 0, 0, 1001));
            refused("start(8)", state, true, x -> x.start(8));
            refused("set(4, 0)", state, true, x -> x.set(4, 0));
            refused("store(32, 0)", state, true, x -> x.store(32, 0));
        }
        int[] rest = {0, 3, 4};
        for (int state : rest) {
            refused("run(0)", state, true, x -> x.run(0));
            refused("run(301)", state, true, x -> x.run(301));
        }
        TagMachine full = new TagMachine(1, 1);
        for (int i = 0; i < 30; i++) {
            Op.halt(full);
        }
        CHECK.badArgument("put of op -1 with thirty", () -> full.put(-1, 0, 0, 0, 0));
        CHECK.badArgument("put with r -1 with thirty", () -> full.put(0, -1, 0, 0, 0));
        CHECK.badArgument("put with n -1001 with thirty", () -> full.put(0, 0, 0, 0, -1001));
        full.start(0);
        CHECK.badArgument("put of op 13 with thirty while it runs", () -> full.put(13, 0, 0, 0, 0));
        CHECK.badState("put with thirty while it runs", () -> full.put(0, 0, 0, 0, 0));
    }

    private static void floatingOfNoRegister() {
        CHECK.sentence("floating: 0 when there is no such register.");
        int[] wrong = {MIN, -1, 4, 5, MAX};
        for (int state = 1; state < STATES.length; state++) {
            for (int r : wrong) {
                CHECK.same("floating(" + r + ") of " + STATES[state], in(state).floating(r), 0);
            }
        }
        CHECK.sameNumber("floating(3)", in(1).floating(3), Op.ONE + 3);
    }

    private static void floatingWhileItWaits() {
        CHECK.sentence("The latest value of Fr (while it waits: the one before).");
        TagMachine x = in(1);
        CHECK.same("tag(0)", x.tag(0), 4);
        CHECK.sameNumber("floating(0)", x.floating(0), Op.ONE);
        x.run(2);
        CHECK.same("place(6) when the load was sent", x.place(6), 0);
        CHECK.same("tag(0) when the load was sent", x.tag(0), 4);
        CHECK.sameNumber("floating(0) when the load was sent", x.floating(0), Op.ONE);
    }

    private static void generalOfNoRegister() {
        CHECK.sentence("Rr. 0 when there is no such register.");
        int[] wrong = {MIN, -1, 4, MAX};
        TagMachine x = new TagMachine(1, 1);
        for (int r = 0; r < 4; r++) {
            Op.setTo(x, r, 7 + r);
        }
        x.start(0);
        x.run(300);
        for (int r : wrong) {
            CHECK.same("general(" + r + ")", x.general(r), 0);
        }
        CHECK.same("general(0)", x.general(0), 7);
        CHECK.same("general(3)", x.general(3), 10);
    }

    private static void wordOfNoPlace() {
        CHECK.sentence("A word of storage; 0 when there is none.");
        int[] wrong = {MIN, -1, 32, MAX};
        for (int place : wrong) {
            CHECK.same("word(" + place + ")", in(3).word(place), 0);
        }
        CHECK.sameNumber("word(0)", in(3).word(0), Op.TWO);
        CHECK.sameNumber("word(31)", in(3).word(31), Op.TWO + 31);
    }

    private static void tagOfNoneSuch() {
        CHECK.sentence("tag: NONE when there is none such.");
        int[] wrong = {MIN, -1, 5, MAX};
        for (int state = 0; state < STATES.length; state++) {
            for (int r : wrong) {
                CHECK.same("tag(" + r + ") of " + STATES[state], in(state).tag(r), TagMachine.NONE);
            }
        }
    }

    private static void tagZeroForNone() {
        CHECK.sentence("For which tag Fr (r 0 .. 3) or the code (r 4) waits; 0 for none");
        int[] due = {4, 0, 0, 0, 1};
        for (int r = 0; r <= 4; r++) {
            CHECK.same("tag(" + r + ") of a new one", in(0).tag(r), 0);
            CHECK.same("tag(" + r + ") of one that runs", in(1).tag(r), due[r]);
            CHECK.same("tag(" + r + ") of one that halted", in(3).tag(r), 0);
            CHECK.same("tag(" + r + ") of one that stopped", in(4).tag(r), 0);
        }
    }

    private static void placeOfNoneSuch() {
        CHECK.sentence("place: NONE when there is none.");
        int[] wrong = {MIN, -1, 0, 13, MAX};
        for (int state = 0; state < STATES.length; state++) {
            for (int t : wrong) {
                CHECK.same("place(" + t + ") of " + STATES[state], in(state).place(t), TagMachine.NONE);
            }
        }
    }

    /** The load begins in cycle 3 and is done in 6, the comparison begins in 5, and the store waits for the MUL. */
    private static void placeInEachState() {
        CHECK.sentence("0 free, 1 it has not begun, 2 it works, 3 it is done.");
        TagMachine x = in(1);
        int[] due = {2, 0, 0, 1, 0, 2, 0, 0, 0, 1, 0, 0};
        int[] next = {2, 0, 0, 1, 1, 3, 0, 0, 0, 1, 0, 0};
        for (int t = 1; t <= 12; t++) {
            CHECK.same("place(" + t + ") after cycle 5", x.place(t), due[t - 1]);
        }
        x.run(1);
        for (int t = 1; t <= 12; t++) {
            CHECK.same("place(" + t + ") after cycle 6", x.place(t), next[t - 1]);
        }
    }

    private static void aboutNothing() {
        CHECK.sentence("NONE for another what.");
        int[] wrong = {MIN, -1, 7, MAX};
        for (int state = 0; state < STATES.length; state++) {
            for (int what : wrong) {
                CHECK.same("about(" + what + ") of " + STATES[state], in(state).about(what), TagMachine.NONE);
            }
        }
    }

    private static void aboutEachState() {
        CHECK.sentence("what 0: 0 RUNS, 1 DRAINS, 2 HALTED, 3 STOPPED");
        int[] due = {2, 0, 1, 2, 3};
        for (int state = 0; state < STATES.length; state++) {
            CHECK.same("about(0) of " + STATES[state], in(state).about(0), due[state]);
        }
    }

    private static void aboutTheCodeWhileItWaits() {
        CHECK.sentence("3: the code (while it waits: the one before)");
        TagMachine x = in(3);
        CHECK.same("about(3) at the end", x.about(3), 1);
        x.set(3, 0);
        x.start(3);
        x.run(4);
        CHECK.same("tag(4) after four cycles", x.tag(4), 1);
        CHECK.same("about(3) after four cycles", x.about(3), 1);
        x.run(1);
        CHECK.same("tag(4) after five cycles", x.tag(4), 0);
        CHECK.same("about(3) after five cycles", x.about(3), 2);
    }

    private static void aboutHandedOut() {
        CHECK.sentence("5: instructions handed out in all (all that were done in part 4, HALT too)");
        CHECK.same("about(5) of one that runs", in(1).about(5), 5);
        CHECK.same("about(5) of one that drains", in(2).about(5), 8);
        CHECK.same("about(5) of one that halted", in(3).about(5), 8);
        CHECK.same("about(5) of one that stopped", in(4).about(5), 6);
        TagMachine x = in(3);
        x.start(7);
        x.run(1);
        CHECK.same("about(5) after another HALT", x.about(5), 9);
    }

    private static void lookingChangesNothing() {
        CHECK.sentence("the answers and state changes described above");
        for (int state = BUSY_FROM; state <= BUSY_TO; state++) {
            TagMachine x = in(state);
            TagMachine twin = in(state);
            while (x.about(0) <= Op.DRAINS) {
                Look.at(x);
                x.run(1);
            }
            twin.run(300);
            CHECK.same("what is seen at the end", Look.at(x), Look.at(twin));
        }
    }

    /** 2 puts, 1 start and 508 runs; then the last call. */
    private static void fiveHundredAndTwelveCalls() {
        CHECK.sentence("An object is used for at most 512 calls after it has been made");
        for (int what = 4; what <= 5; what++) {
            TagMachine x = new TagMachine(8, 8);
            Op.addTo(x, 0, 0, 1);
            Op.goIf(x, 3, 0);
            x.start(0);
            for (int i = 0; i < 508; i++) {
                CHECK.same("run(300)", x.run(300), 300);
            }
            CHECK.same("about(" + what + ")", x.about(what), 508 * 300);
        }
    }
}
