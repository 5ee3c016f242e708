/** Promise 6: store. */
public final class StoreTest {
    private static final Check CHECK = new Check();

    public static void main(String[] args) {
        wordsTakeAnyInt();
        wrongPlacesAreRefused();
        busyMachinesAreRefused();
        whatWasStoredIsLoaded();
        CHECK.end();
    }

    private static void wordsTakeAnyInt() {
        TagMachine x = new TagMachine(3, 1);
        for (int place = 0; place < 32; place++) {
            CHECK.same("store(" + place + ")", x.store(place, -place * 100000007), true);
        }
        for (int place = 0; place < 32; place++) {
            CHECK.same("word(" + place + ")", x.word(place), -place * 100000007);
        }
    }

    private static void wrongPlacesAreRefused() {
        int[] wrong = {Integer.MIN_VALUE, -1, 32, Integer.MAX_VALUE};
        for (int place : wrong) {
            CHECK.badArgument("store(" + place + ")", () -> new TagMachine(1, 1).store(place, 0));
            CHECK.badArgument("store(" + place + ") while it runs", () -> Op.running().store(place, 0));
            CHECK.badArgument("store(" + place + ") while it drains", () -> Op.draining().store(place, 0));
        }
    }

    private static void busyMachinesAreRefused() {
        TagMachine x = Op.running();
        CHECK.badState("store while it runs", () -> x.store(0, 5));
        CHECK.same("word(0)", x.word(0), 0);
        CHECK.badState("store while it drains", () -> Op.draining().store(31, 0));
    }

    private static void whatWasStoredIsLoaded() {
        TagMachine x = new TagMachine(8, 8);
        Op.access(x, Op.LOAD, 0, 0, 31);
        Op.halt(x);
        CHECK.same("store(31)", x.store(31, 12345), true);
        x.start(0);
        x.run(300);
        CHECK.same("floating(0)", x.floating(0), 12345);
    }
}
