import java.util.ArrayList;
import java.util.List;

/**
 * A second machine, built otherwise than the program: work is a list of jobs in the order in
 * which they were handed out, operands point at the job that makes them, and what a job is
 * about follows from the cycle in which it began.
 */
final class MachineModel {
    private static final int NEVER = Integer.MAX_VALUE / 2;

    /** A value, or the job that will make it. */
    static final class Source {
        int value;
        Job maker;

        Source copied() {
            Source copy = new Source();
            copy.value = value;
            copy.maker = maker;
            return copy;
        }

        void take(Source other) {
            maker = other.maker;
            if (maker == null) {
                value = other.value;
            }
        }
    }

    static final class Job {
        int[] instruction;
        int slot;
        int place = -1;
        int begun = NEVER;
        int lasts;
        int result;
        int raised;
        final List<Source> needs = new ArrayList<>();

        boolean isReady() {
            return begun == NEVER && needs.stream().allMatch(need -> need.maker == null);
        }

        boolean worksAfter(int cycle) {
            return begun <= cycle && cycle < begun + lasts;
        }

        boolean isDoneAfter(int cycle) {
            return begun + lasts <= cycle;
        }
    }

    private final int banks;
    private final int latency;
    final List<int[]> program = new ArrayList<>();
    final Source[] f = new Source[5];
    final int[] r = new int[4];
    final int[] words = new int[32];
    private final List<Job> jobs = new ArrayList<>();
    int mode = Op.HALTED;
    int next;
    int noted;
    int cycle;
    int handedOut;

    MachineModel(int banks, int latency) {
        this.banks = Math.min(8, Math.max(1, banks));
        this.latency = Math.min(8, Math.max(1, latency));
        for (int i = 0; i < 5; i++) {
            f[i] = new Source();
        }
    }

    void start(int at) {
        next = at;
        noted = 0;
        mode = Op.RUNS;
    }

    int run(int n) {
        int from = cycle;
        while (cycle - from < n && mode <= Op.DRAINS) {
            step();
        }
        return cycle - from;
    }

    int place(int slot) {
        for (Job job : jobs) {
            if (job.slot == slot) {
                return job.begun == NEVER ? 1 : job.worksAfter(cycle) ? 2 : 3;
            }
        }
        return 0;
    }

    int tag(int i) {
        return f[i].maker == null ? 0 : f[i].maker.slot;
    }

    private void step() {
        cycle++;
        send();
        writeStores();
        begin(1, 3);
        if (jobs.stream().noneMatch(job -> isIn(job, 4, 5) && job.worksAfter(cycle))) {
            begin(4, 5);
        }
        beginAccess();
        if (mode == Op.RUNS && noted == 0) {
            handOut();
        }
        if (noted != 0) {
            mode = Op.DRAINS;
        }
        if (mode == Op.DRAINS && jobs.isEmpty()) {
            mode = noted != 0 ? Op.STOPPED : Op.HALTED;
        }
    }

    private static boolean isIn(Job job, int from, int to) {
        return job.slot >= from && job.slot <= to;
    }

    private void send() {
        int[] order = {6, 7, 8, 9, 1, 2, 3, 4, 5};
        for (int slot : order) {
            for (Job job : jobs) {
                if (job.slot == slot && job.isDoneAfter(cycle - 1)) {
                    sendFrom(job);
                    return;
                }
            }
        }
    }

    private void sendFrom(Job job) {
        List<Source> all = new ArrayList<>(List.of(f));
        for (Job other : jobs) {
            all.addAll(other.needs);
        }
        for (Source source : all) {
            if (source.maker == job) {
                source.maker = null;
                source.value = job.result;
            }
        }
        noted |= job.raised;
        jobs.remove(job);
    }

    private void writeStores() {
        for (Job job : jobs) {
            if (isIn(job, 10, 12) && job.isDoneAfter(cycle)) {
                words[job.place] = job.needs.get(0).value;
            }
        }
        jobs.removeIf(job -> isIn(job, 10, 12) && job.isDoneAfter(cycle));
    }

    private void begin(int from, int to) {
        for (int slot = from; slot <= to; slot++) {
            for (Job job : jobs) {
                if (job.slot == slot && job.isReady()) {
                    int op = job.instruction[0];
                    NumberModel number = NumberModel.of(op - 2, job.needs.get(0).value, job.needs.get(1).value);
                    job.begun = cycle;
                    job.lasts = op == Op.MUL ? 4 : op == Op.DIV ? 8 : 2;
                    job.result = number.result;
                    job.raised = number.raised;
                    return;
                }
            }
        }
    }

    private void beginAccess() {
        for (Job job : jobs) {
            if (job.place >= 0 && job.isReady() && isBankFree(job.place % banks)) {
                job.begun = cycle;
                job.lasts = latency;
                job.result = words[job.place];
                return;
            }
        }
    }

    private boolean isBankFree(int bank) {
        return jobs.stream().noneMatch(job -> job.place >= 0 && job.place % banks == bank && job.worksAfter(cycle));
    }

    private int freeSlot(int from, int to) {
        for (int slot = from; slot <= to; slot++) {
            if (place(slot) == 0) {
                return slot;
            }
        }
        return 0;
    }

    private void handOut() {
        if (next < 0 || next >= program.size()) {
            noted |= 16;
            return;
        }
        int[] now = program.get(next);
        long place = (long) r[now[3]] + now[4];
        if (now[0] <= Op.STORE && (place < 0 || place > 31)) {
            noted |= 8;
            return;
        }
        int following = now[0] <= Op.COMP ? takeJob(now, (int) place) : doNow(now);
        if (following != NEVER) {
            next = following;
            handedOut++;
        }
    }

    private int takeJob(int[] now, int place) {
        Job job = new Job();
        job.instruction = now;
        switch (now[0]) {
            case Op.LOAD:
                job.slot = freeSlot(6, 9);
                break;
            case Op.STORE:
                job.slot = freeSlot(10, 12);
                break;
            case Op.MUL:
            case Op.DIV:
                job.slot = freeSlot(4, 5);
                break;
            default:
                job.slot = freeSlot(1, 3);
        }
        boolean isAccess = now[0] <= Op.STORE;
        boolean isHeldUp = isAccess && jobs.stream().anyMatch(other -> isIn(other, 10, 12) && other.place == place);
        if (job.slot == 0 || isHeldUp) {
            return NEVER;
        }
        if (isAccess) {
            job.place = place;
        }
        if (now[0] != Op.LOAD) {
            job.needs.add(f[now[1]].copied());
        }
        if (!isAccess) {
            job.needs.add(f[now[2]].copied());
        }
        if (now[0] != Op.STORE) {
            f[now[0] == Op.COMP ? 4 : now[1]].maker = job;
        }
        jobs.add(job);
        return next + 1;
    }

    private int doNow(int[] now) {
        switch (now[0]) {
            case Op.MOVE:
                f[now[1]].take(f[now[2]]);
                return next + 1;
            case Op.SET:
                r[now[1]] = now[4];
                return next + 1;
            case Op.ADDN:
                r[now[1]] = r[now[2]] + now[4];
                return next + 1;
            case Op.COUNT:
                r[now[1]] -= 1;
                return r[now[1]] == 0 ? next + 1 : now[4];
            case Op.IF:
                if (f[4].maker != null) {
                    return NEVER;
                }
                return now[1] == 3 || now[1] == f[4].value ? now[4] : next + 1;
            default:
                mode = Op.DRAINS;
                return next + 1;
        }
    }
}
