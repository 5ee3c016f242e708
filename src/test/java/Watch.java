/** Follows one machine from cycle to cycle and tells what is not as due. */
final class Watch {
    private final Check check;
    private final TagMachine machine;

    Watch(Check check, TagMachine machine) {
        this.check = check;
        this.machine = machine;
    }

    /** Goes on until so many cycles are done in all. */
    Watch to(int cycle) {
        int left = cycle - machine.about(4);
        if (left > 0 && machine.about(0) <= Op.DRAINS) {
            machine.run(left);
        }
        check.same("about(4)", machine.about(4), cycle);
        return this;
    }

    private String when(String call) {
        return call + " after cycle " + machine.about(4);
    }

    /** The states from that station or buffer on. */
    Watch places(int from, int... states) {
        for (int i = 0; i < states.length; i++) {
            check.same(when("place(" + (from + i) + ")"), machine.place(from + i), states[i]);
        }
        return this;
    }

    Watch about(int what, int due) {
        check.same(when("about(" + what + ")"), machine.about(what), due);
        return this;
    }

    Watch tag(int r, int due) {
        check.same(when("tag(" + r + ")"), machine.tag(r), due);
        return this;
    }

    Watch floating(int r, int due) {
        check.sameNumber(when("floating(" + r + ")"), machine.floating(r), due);
        return this;
    }

    Watch general(int r, int due) {
        check.same(when("general(" + r + ")"), machine.general(r), due);
        return this;
    }

    Watch word(int place, int due) {
        check.sameNumber(when("word(" + place + ")"), machine.word(place), due);
        return this;
    }

    /** It is still at work in the cycle before that one, and then at rest. */
    Watch endsAfter(int cycle, int mode) {
        to(cycle - 1);
        check.same(when("is at work"), machine.about(0) <= Op.DRAINS, true);
        if (machine.about(0) <= Op.DRAINS) {
            machine.run(300);
        }
        check.same("about(4) at the end", machine.about(4), cycle);
        return about(0, mode);
    }
}
