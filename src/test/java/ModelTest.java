import java.util.Random;

/** Programs made by chance, on the machine and on its model, looked at all the way; each object has 512 calls. */
public final class ModelTest {
    private static final int RUNS = 6000;
    private static final int LOOKS = 330;

    private static final Check CHECK = new Check();

    private final int run;
    private final Random random;
    private final Programs programs;
    private final TagMachine machine;
    private final MachineModel model;
    private int looks;

    private ModelTest(int run) {
        this.run = run;
        random = new Random(1000L + run);
        int[] dangers = {0, 2, 20};
        programs = new Programs(random, dangers[run % 3]);
        int banks = random.nextInt(10);
        int latency = random.nextInt(10);
        machine = new TagMachine(banks, latency);
        model = new MachineModel(banks, latency);
    }

    public static void main(String[] args) {
        for (int run = 0; run < RUNS; run++) {
            new ModelTest(run).go();
        }
        CHECK.end();
    }

    private void go() {
        fill(1 + random.nextInt(29));
        for (int starts = 0; starts < 3 && looks < LOOKS; starts++) {
            int at = random.nextInt(model.program.size());
            machine.start(at);
            model.start(at);
            while (model.mode <= Op.DRAINS && looks < LOOKS) {
                step();
            }
        }
        lookAtAll();
    }

    private void fill(int size) {
        for (int at = 0; at < size; at++) {
            int[] made = at == size - 1 ? new int[] {Op.HALT, 0, 0, 0, 0} : programs.instruction(at, size);
            same("put", machine.put(made[0], made[1], made[2], made[3], made[4]), at);
            model.program.add(made);
        }
        for (int r = 0; r < 4; r++) {
            int number = programs.number();
            machine.set(r, number);
            model.f[r].value = number;
        }
        for (int place = 0; place < 32; place++) {
            int number = programs.number();
            machine.store(place, number);
            model.words[place] = number;
        }
    }

    private void step() {
        int n = random.nextInt(8) == 0 ? 1 + random.nextInt(300) : 1;
        same("run(" + n + ")", machine.run(n), model.run(n));
        looks++;
        for (int i = 0; i < 4; i++) {
            look();
            looks++;
        }
    }

    private void look() {
        switch (random.nextInt(8)) {
            case 0:
                lookAtRegister(random.nextInt(4));
                break;
            case 1:
                lookAtGeneral(random.nextInt(4));
                break;
            case 2:
                lookAtWord(random.nextInt(32));
                break;
            case 3:
                lookAtTag(random.nextInt(5));
                break;
            case 4:
                lookAtAbout(random.nextInt(7));
                break;
            default:
                lookAtPlace(1 + random.nextInt(12));
        }
    }

    private void lookAtAll() {
        for (int r = 0; r < 4; r++) {
            lookAtRegister(r);
            lookAtGeneral(r);
        }
        for (int place = 0; place < 32; place++) {
            lookAtWord(place);
        }
        for (int r = 0; r < 5; r++) {
            lookAtTag(r);
        }
        for (int t = 1; t <= 12; t++) {
            lookAtPlace(t);
        }
        for (int what = 0; what < 7; what++) {
            lookAtAbout(what);
        }
    }

    private void lookAtRegister(int r) {
        same("floating(" + r + ")", machine.floating(r), model.f[r].value);
    }

    private void lookAtGeneral(int r) {
        same("general(" + r + ")", machine.general(r), model.r[r]);
    }

    private void lookAtWord(int place) {
        same("word(" + place + ")", machine.word(place), model.words[place]);
    }

    private void lookAtTag(int r) {
        same("tag(" + r + ")", machine.tag(r), model.tag(r));
    }

    private void lookAtPlace(int t) {
        same("place(" + t + ")", machine.place(t), model.place(t));
    }

    private void lookAtAbout(int what) {
        int[] due = {
            model.mode, model.next, model.noted, model.f[4].value, model.cycle, model.handedOut, model.program.size(),
        };
        same("about(" + what + ")", machine.about(what), due[what]);
    }

    private void same(String call, int got, int due) {
        if (got != due) {
            CHECK.same("run " + run + ", cycle " + model.cycle + ": " + call, got, due);
        }
    }
}
