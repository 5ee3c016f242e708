/**
 * A machine for numbers with hexadecimal points that works out of order; the promises
 * that it keeps are those of the project's document.
 */
public final class TagMachine {
    public static final int NONE = -1;

    private static final int LOAD = 0;
    private static final int STORE = 1;
    private static final int ADD = 2;
    private static final int MUL = 4;
    private static final int DIV = 5;
    private static final int COMP = 6;
    private static final int MOVE = 7;
    private static final int SET = 8;
    private static final int ADDN = 9;
    private static final int COUNT = 10;
    private static final int IF = 11;
    private static final int HALT = 12;

    private static final int RUNS = 0;
    private static final int DRAINS = 1;
    private static final int HALTED = 2;
    private static final int STOPPED = 3;

    private static final int FREE = 0;
    private static final int NOT_BEGUN = 1;
    private static final int WORKS = 2;
    private static final int DONE = 3;

    private static final int FIRST_ADDER = 1;
    private static final int LAST_ADDER = 3;
    private static final int FIRST_MULTIPLIER = 4;
    private static final int LAST_MULTIPLIER = 5;
    private static final int FIRST_LOAD = 6;
    private static final int LAST_LOAD = 9;
    private static final int FIRST_STORE = 10;
    private static final int LAST_STORE = 12;

    private static final int ADDER_CYCLES = 2;
    private static final int MUL_CYCLES = 4;
    private static final int DIV_CYCLES = 8;

    private static final int NO_PLACE = 8;
    private static final int NO_INSTRUCTION = 16;

    private static final int REGISTERS = 4;
    private static final int CODE = 4;
    private static final int ALWAYS = 3;
    private static final int PLACES = 32;
    private static final int MOST_INSTRUCTIONS = 30;
    private static final int MOST_CYCLES = 300;
    private static final int FARTHEST = 1000;
    private static final int MOST_BANKS = 8;
    private static final int MOST_LATENCY = 8;

    private final int banks;
    private final int latency;
    private final Instruction[] program;
    /** F0 .. F3, and behind them the code, which waits for tags as they do. */
    private final Operand[] registers;
    private final int[] integers;
    private final int[] words;
    /** At its tag each station and load buffer, then the store buffers; 0 is no tag, so that row is never used. */
    private final Unit[] units;
    private final boolean[] bankInUse;
    private final Reckoner reckoner;
    private int instructions;
    private int mode;
    private int next;
    private int noted;
    private int cycles;
    private int handedOut;

    public TagMachine(int banks, int latency) {
        this.banks = Math.max(1, Math.min(MOST_BANKS, banks));
        this.latency = Math.max(1, Math.min(MOST_LATENCY, latency));
        program = new Instruction[MOST_INSTRUCTIONS];
        for (int i = 0; i < MOST_INSTRUCTIONS; i++) {
            program[i] = new Instruction();
        }
        registers = new Operand[REGISTERS + 1];
        for (int i = 0; i <= REGISTERS; i++) {
            registers[i] = new Operand();
        }
        units = new Unit[LAST_STORE + 1];
        for (int i = 0; i <= LAST_STORE; i++) {
            units[i] = new Unit();
        }
        integers = new int[REGISTERS];
        words = new int[PLACES];
        bankInUse = new boolean[MOST_BANKS];
        reckoner = new Reckoner();
        mode = HALTED;
    }

    public int put(int op, int r, int s, int b, int n) throws IllegalArgumentException, IllegalStateException {
        if (op < LOAD || op > HALT || !isRegister(r) || !isRegister(s) || !isRegister(b)) {
            throw new IllegalArgumentException();
        }
        if (op != SET && (n < -FARTHEST || n > FARTHEST)) {
            throw new IllegalArgumentException();
        }
        if (instructions >= MOST_INSTRUCTIONS || isBusy()) {
            throw new IllegalStateException();
        }
        program[instructions].become(op, r, s, b, n);
        instructions++;
        return instructions - 1;
    }

    public boolean start(int at) throws IllegalArgumentException, IllegalStateException {
        if (!isInstruction(at)) {
            throw new IllegalArgumentException();
        }
        if (isBusy()) {
            throw new IllegalStateException();
        }
        next = at;
        noted = 0;
        mode = RUNS;
        return true;
    }

    public int run(int n) throws IllegalArgumentException, IllegalStateException {
        if (n < 1 || n > MOST_CYCLES) {
            throw new IllegalArgumentException();
        }
        if (!isBusy()) {
            throw new IllegalStateException();
        }
        int gone = 0;
        while (gone < n && isBusy()) {
            goOneCycle();
            gone++;
        }
        return gone;
    }

    public boolean set(int r, int v) throws IllegalArgumentException, IllegalStateException {
        if (!isRegister(r)) {
            throw new IllegalArgumentException();
        }
        if (isBusy()) {
            throw new IllegalStateException();
        }
        registers[r].haveValue(v);
        return true;
    }

    public boolean store(int place, int v) throws IllegalArgumentException, IllegalStateException {
        if (!isPlace(place)) {
            throw new IllegalArgumentException();
        }
        if (isBusy()) {
            throw new IllegalStateException();
        }
        words[place] = v;
        return true;
    }

    public int reckon(int how, int a, int b) throws IllegalArgumentException {
        if (!Reckoner.knows(how)) {
            throw new IllegalArgumentException();
        }
        reckoner.workOut(how, a, b);
        return reckoner.result;
    }

    public int exceptions(int how, int a, int b) throws IllegalArgumentException {
        if (!Reckoner.knows(how)) {
            throw new IllegalArgumentException();
        }
        reckoner.workOut(how, a, b);
        return reckoner.raised;
    }

    public int floating(int r) {
        return isRegister(r) ? registers[r].value : 0;
    }

    public int general(int r) {
        return isRegister(r) ? integers[r] : 0;
    }

    public int word(int place) {
        return isPlace(place) ? words[place] : 0;
    }

    public int tag(int r) {
        return isRegister(r) || r == CODE ? registers[r].awaited : NONE;
    }

    public int place(int t) {
        return t >= FIRST_ADDER && t <= LAST_STORE ? units[t].state : NONE;
    }

    public int about(int what) {
        switch (what) {
            case 0:
                return mode;
            case 1:
                return next;
            case 2:
                return noted;
            case 3:
                return registers[CODE].value;
            case 4:
                return cycles;
            case 5:
                return handedOut;
            case 6:
                return instructions;
            default:
                return NONE;
        }
    }

    private static boolean isRegister(int r) {
        return r >= 0 && r < REGISTERS;
    }

    private static boolean isPlace(int place) {
        return place >= 0 && place < PLACES;
    }

    private static boolean usesStorage(int op) {
        return op == LOAD || op == STORE;
    }

    private boolean isInstruction(int at) {
        return at >= 0 && at < instructions;
    }

    private boolean isBusy() {
        return mode == RUNS || mode == DRAINS;
    }

    private void goOneCycle() {
        useBus();
        work();
        beginStation(firstReady(FIRST_ADDER, LAST_ADDER));
        beginStation(nextOfMultiplier());
        beginStorage();
        if (mode == RUNS) {
            handOut();
        }
        if (mode == DRAINS && allFree()) {
            mode = noted != 0 ? STOPPED : HALTED;
        }
        cycles++;
    }

    /** Draining begins with the first exception, so a machine that still runs has none noted. */
    private void note(int raised) {
        if (raised != 0) {
            noted |= raised;
            mode = DRAINS;
        }
    }

    private boolean allFree() {
        for (int t = FIRST_ADDER; t <= LAST_STORE; t++) {
            if (units[t].state != FREE) {
                return false;
            }
        }
        return true;
    }

    private int firstLike(int state, int from, int to) {
        for (int t = from; t <= to; t++) {
            if (units[t].state == state) {
                return t;
            }
        }
        return NONE;
    }

    private int firstReady(int from, int to) {
        for (int t = from; t <= to; t++) {
            if (units[t].isReady()) {
                return t;
            }
        }
        return NONE;
    }

    private void useBus() {
        int sender = firstLike(DONE, FIRST_LOAD, LAST_LOAD);
        if (sender == NONE) {
            sender = firstLike(DONE, FIRST_ADDER, LAST_MULTIPLIER);
        }
        if (sender != NONE) {
            send(sender);
        }
    }

    private void send(int sender) {
        Unit unit = units[sender];
        for (int t = FIRST_ADDER; t <= LAST_STORE; t++) {
            units[t].hear(sender, unit.result);
        }
        for (int r = 0; r <= CODE; r++) {
            registers[r].hear(sender, unit.result);
        }
        unit.state = FREE;
        note(unit.raised);
    }

    private void work() {
        for (int t = FIRST_ADDER; t <= LAST_STORE; t++) {
            Unit unit = units[t];
            if (unit.state == WORKS) {
                unit.toGo--;
                if (unit.toGo == 0) {
                    finishWork(unit);
                }
            }
        }
    }

    private void finishWork(Unit unit) {
        unit.state = DONE;
        if (usesStorage(unit.op)) {
            bankInUse[bankOf(unit)] = false;
        }
        if (unit.op == STORE) {
            words[unit.address] = unit.first.value;
            unit.state = FREE;
        }
    }

    private int bankOf(Unit unit) {
        return unit.address % banks;
    }

    private int nextOfMultiplier() {
        boolean works = firstLike(WORKS, FIRST_MULTIPLIER, LAST_MULTIPLIER) != NONE;
        return works ? NONE : firstReady(FIRST_MULTIPLIER, LAST_MULTIPLIER);
    }

    private void beginStation(int t) {
        if (t != NONE) {
            Unit unit = units[t];
            reckoner.workOut(unit.op - ADD, unit.first.value, unit.second.value);
            unit.begin(cyclesFor(unit.op), reckoner.result, reckoner.raised);
        }
    }

    private static int cyclesFor(int op) {
        switch (op) {
            case MUL:
                return MUL_CYCLES;
            case DIV:
                return DIV_CYCLES;
            default:
                return ADDER_CYCLES;
        }
    }

    private void beginStorage() {
        int t = earliestAccess();
        if (t != NONE) {
            Unit unit = units[t];
            bankInUse[bankOf(unit)] = true;
            unit.begin(latency, words[unit.address], 0);
        }
    }

    private int earliestAccess() {
        int earliest = NONE;
        for (int t = FIRST_LOAD; t <= LAST_STORE; t++) {
            Unit unit = units[t];
            if (unit.isReady() && !bankInUse[bankOf(unit)]
                    && (earliest == NONE || unit.order < units[earliest].order)) {
                earliest = t;
            }
        }
        return earliest;
    }

    private void handOut() {
        if (!isInstruction(next)) {
            note(NO_INSTRUCTION);
            return;
        }
        Instruction now = program[next];
        boolean isHandedOut;
        if (usesStorage(now.op)) {
            isHandedOut = handToBuffer(now);
        } else if (now.op <= COMP) {
            isHandedOut = handToStation(now);
        } else {
            isHandedOut = doAtOnce(now);
        }
        if (isHandedOut) {
            handedOut++;
        }
    }

    private boolean handToBuffer(Instruction now) {
        int address = integers[now.b] + now.n;
        if (!isPlace(address)) {
            note(NO_PLACE);
            return false;
        }
        int t = now.op == LOAD ? firstLike(FREE, FIRST_LOAD, LAST_LOAD) : firstLike(FREE, FIRST_STORE, LAST_STORE);
        if (t == NONE || isToBeStored(address)) {
            return false;
        }
        units[t].claim(now.op, address, handedOut);
        if (now.op == LOAD) {
            registers[now.r].waitFor(t);
        } else {
            units[t].first.copy(registers[now.r]);
        }
        next++;
        return true;
    }

    private boolean isToBeStored(int address) {
        for (int t = FIRST_STORE; t <= LAST_STORE; t++) {
            if (units[t].state != FREE && units[t].address == address) {
                return true;
            }
        }
        return false;
    }

    private boolean handToStation(Instruction now) {
        int t = now.op == MUL || now.op == DIV
                ? firstLike(FREE, FIRST_MULTIPLIER, LAST_MULTIPLIER)
                : firstLike(FREE, FIRST_ADDER, LAST_ADDER);
        if (t == NONE) {
            return false;
        }
        units[t].claim(now.op, 0, handedOut);
        units[t].first.copy(registers[now.r]);
        units[t].second.copy(registers[now.s]);
        registers[now.op == COMP ? CODE : now.r].waitFor(t);
        next++;
        return true;
    }

    private boolean doAtOnce(Instruction now) {
        if (now.op == IF && registers[CODE].isAwaited()) {
            return false;
        }
        int following = next + 1;
        switch (now.op) {
            case MOVE:
                registers[now.r].copy(registers[now.s]);
                break;
            case SET:
                integers[now.r] = now.n;
                break;
            case ADDN:
                integers[now.r] = integers[now.s] + now.n;
                break;
            case COUNT:
                integers[now.r]--;
                following = integers[now.r] != 0 ? now.n : following;
                break;
            case IF:
                following = now.r == ALWAYS || now.r == registers[CODE].value ? now.n : following;
                break;
            default:
                mode = DRAINS;
        }
        next = following;
        return true;
    }

    private static final class Instruction {
        int op;
        int r;
        int s;
        int b;
        int n;

        void become(int newOp, int newR, int newS, int newB, int newN) {
            op = newOp;
            r = newR;
            s = newS;
            b = newB;
            n = newN;
        }
    }

    /** A value, or the tag of the unit that will send it; the value before it is kept while it is awaited. */
    private static final class Operand {
        int value;
        int awaited;

        boolean isAwaited() {
            return awaited != 0;
        }

        void haveValue(int v) {
            value = v;
            awaited = 0;
        }

        void waitFor(int t) {
            awaited = t;
        }

        void copy(Operand other) {
            if (other.isAwaited()) {
                waitFor(other.awaited);
            } else {
                haveValue(other.value);
            }
        }

        void hear(int sender, int result) {
            if (awaited == sender) {
                haveValue(result);
            }
        }
    }

    /**
     * A station or a buffer; a store has its value as the first operand, and a load needs none.
     * Operands that are never given wait for nothing, so they hold nothing up.
     */
    private static final class Unit {
        final Operand first = new Operand();
        final Operand second = new Operand();
        int state;
        int op;
        int address;
        int order;
        int toGo;
        int result;
        int raised;

        boolean isReady() {
            return state == NOT_BEGUN && !first.isAwaited() && !second.isAwaited();
        }

        void claim(int newOp, int newAddress, int newOrder) {
            state = NOT_BEGUN;
            op = newOp;
            address = newAddress;
            order = newOrder;
        }

        void begin(int cyclesToGo, int futureResult, int futureExceptions) {
            state = WORKS;
            toGo = cyclesToGo;
            result = futureResult;
            raised = futureExceptions;
        }

        void hear(int sender, int sent) {
            first.hear(sender, sent);
            second.hear(sender, sent);
        }
    }

    /** Holds what the latest reckoning gave, so that no call has to make an object for it. */
    private static final class Reckoner {
        private static final int SUM = 0;
        private static final int DIFFERENCE = 1;
        private static final int PRODUCT = 2;
        private static final int QUOTIENT = 3;
        private static final int COMPARED = 4;

        private static final int OVERFLOW = 1;
        private static final int UNDERFLOW = 2;
        private static final int DIVIDE = 4;

        private static final int SIGN = 1 << 31;
        private static final int FRACTION = (1 << 24) - 1;
        private static final int GREATEST = 127;
        private static final int FRACTION_DIGITS = 6;
        /** The digits of a fraction and its guard. */
        private static final int GUARDED_DIGITS = 7;

        int result;
        int raised;

        static boolean knows(int how) {
            return how >= SUM && how <= COMPARED;
        }

        void workOut(int how, int a, int b) {
            raised = 0;
            switch (how) {
                case SUM:
                    add(a, b);
                    break;
                case DIFFERENCE:
                    add(a, b ^ SIGN);
                    break;
                case PRODUCT:
                    multiply(a, b);
                    break;
                case QUOTIENT:
                    divide(a, b);
                    break;
                default:
                    compare(a, b);
            }
        }

        private void add(int a, int b) {
            int sum = alignedSum(a, b);
            int size = sum < 0 ? -sum : sum;
            int c = greaterCharacteristic(a, b);
            if (size >= 1 << 28) {
                size >>= 4;
                c++;
            }
            finish(sum < 0, c, size);
        }

        private void compare(int a, int b) {
            int sum = alignedSum(a, b ^ SIGN);
            if (sum == 0) {
                result = 0;
            } else {
                result = sum < 0 ? 1 : 2;
            }
        }

        private void multiply(int a, int b) {
            if (fraction(a) == 0 || fraction(b) == 0) {
                result = 0;
                return;
            }
            long f = (long) normalFraction(a) * normalFraction(b) >> 20;
            finish((a ^ b) < 0, normalCharacteristic(a) + normalCharacteristic(b) - 64, (int) f);
        }

        private void divide(int a, int b) {
            int divisor = normalFraction(b);
            if (divisor == 0) {
                raised = DIVIDE;
                result = a;
                return;
            }
            long f = ((long) normalFraction(a) << 24) / divisor;
            finish((a ^ b) < 0, normalCharacteristic(a) - normalCharacteristic(b) + 65, (int) f);
        }

        private void finish(boolean below, int c, int f) {
            result = 0;
            if (f == 0) {
                return;
            }
            int zeros = leadingZeros(f, GUARDED_DIGITS);
            int normal = f << 4 * zeros >> 4;
            int left = c - zeros;
            if (left < 0) {
                raised = UNDERFLOW;
                return;
            }
            if (left > GREATEST) {
                raised = OVERFLOW;
                left -= GREATEST + 1;
            }
            result = (below ? SIGN : 0) | left << 24 | normal;
        }

        private static int fraction(int number) {
            return number & FRACTION;
        }

        private static int characteristic(int number) {
            return number >> 24 & GREATEST;
        }

        private static int greaterCharacteristic(int a, int b) {
            return Math.max(characteristic(a), characteristic(b));
        }

        private static int alignedSum(int a, int b) {
            int d = characteristic(a) - characteristic(b);
            return aligned(a, -d) + aligned(b, d);
        }

        /** The signed fraction with its guard, for a number whose characteristic is less by d than the other's. */
        private static int aligned(int number, int d) {
            int digitsLost = Math.max(0, Math.min(GUARDED_DIGITS, d));
            int size = 16 * fraction(number) >> 4 * digitsLost;
            return number < 0 ? -size : size;
        }

        private static int normalFraction(int number) {
            int f = fraction(number);
            return f << 4 * leadingZeros(f, FRACTION_DIGITS);
        }

        private static int normalCharacteristic(int number) {
            return characteristic(number) - leadingZeros(fraction(number), FRACTION_DIGITS);
        }

        private static int leadingZeros(int f, int digits) {
            int zeros = 0;
            while (zeros < digits && f >> 4 * (digits - 1 - zeros) == 0) {
                zeros++;
            }
            return zeros;
        }
    }
}
