/** The instructions by name, each put with only the parts that it uses, and some numbers. */
final class Op {
    static final int LOAD = 0;
    static final int STORE = 1;
    static final int ADD = 2;
    static final int SUB = 3;
    static final int MUL = 4;
    static final int DIV = 5;
    static final int COMP = 6;
    static final int MOVE = 7;
    static final int SET = 8;
    static final int ADDN = 9;
    static final int COUNT = 10;
    static final int IF = 11;
    static final int HALT = 12;

    static final int RUNS = 0;
    static final int DRAINS = 1;
    static final int HALTED = 2;
    static final int STOPPED = 3;

    static final int ONE = 0x41100000;
    static final int TWO = 0x41200000;
    static final int THREE = 0x41300000;
    static final int FOUR = 0x41400000;
    static final int SIX = 0x41600000;
    static final int LARGEST = 0x7FFFFFFF;
    static final int SMALLEST = 0x00100000;

    private Op() {
    }

    /** Any of LOAD and STORE: Fr and the place Rb + n. */
    static void access(TagMachine x, int op, int r, int b, int n) {
        x.put(op, r, 0, b, n);
    }

    /** Any of ADD .. MOVE: Fr and Fs. */
    static void pair(TagMachine x, int op, int r, int s) {
        x.put(op, r, s, 0, 0);
    }

    static void setTo(TagMachine x, int r, int n) {
        x.put(SET, r, 0, 0, n);
    }

    static void addTo(TagMachine x, int r, int s, int n) {
        x.put(ADDN, r, s, 0, n);
    }

    static void count(TagMachine x, int r, int n) {
        x.put(COUNT, r, 0, 0, n);
    }

    static void goIf(TagMachine x, int code, int n) {
        x.put(IF, code, 0, 0, n);
    }

    static void halt(TagMachine x) {
        x.put(HALT, 0, 0, 0, 0);
    }

    /** A machine that has just been started on a program that goes on for ever. */
    static TagMachine running() {
        TagMachine x = new TagMachine(1, 1);
        goIf(x, 3, 0);
        x.start(0);
        return x;
    }

    /** A machine that has handed out its HALT while a DIV still works. */
    static TagMachine draining() {
        TagMachine x = new TagMachine(1, 1);
        pair(x, DIV, 0, 1);
        halt(x);
        x.set(1, ONE);
        x.start(0);
        x.run(3);
        return x;
    }
}
