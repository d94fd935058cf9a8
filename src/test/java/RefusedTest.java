import java.util.function.IntFunction;
import java.util.function.Predicate;
import java.util.function.Supplier;
import java.util.function.ToIntFunction;

/** Each call that the document refuses is answered so, and changes nothing that can be asked. */
public final class RefusedTest {
    private static final int NONE = PocketList.NONE;
    private static final int LEAST = Integer.MIN_VALUE, GREATEST = Integer.MAX_VALUE;
    /** No device of the house. */
    private static final int[] NO_DEVICE = {LEAST, -40, -2, NONE, 3, 4, 5, 40, GREATEST};
    /** Not there for device 0: no number of a THING, of other DEEDS, gone, or 1's alone. */
    private static final int[] NOT_THERE = {LEAST, -40, -2, NONE, 2, 3, 4, 5, 39, 40, 41, 79, 80, 120, 159, 160, 161,
        GREATEST};
    private static final int HERE = 0, STRUCK = 1, GONE = 2, OF_1_ALONE = 40;

    private static final Checks CHECKS = new Checks();
    private static Supplier<PocketList> scene;
    private static String untouched;

    public static void main(String[] args) {
        inScene("nothing there yet", () -> new PocketList(0), RefusedTest::withoutDevices);
        inScene("one device, no deeds", RefusedTest::oneDevice, RefusedTest::withoutDeeds);
        inScene("the house", RefusedTest::house, RefusedTest::inTheHouse);
        inScene("four devices", RefusedTest::fourDevices, RefusedTest::withFourDevices);
        inScene("device 0 has done 40", RefusedTest::fullDevice, RefusedTest::withAFullDevice);
        CHECKS.end();
    }

    private static void inScene(String name, Supplier<PocketList> made, Runnable calls) {
        CHECKS.part(name);
        scene = made;
        untouched = Snapshot.of(made);
        CHECKS.yes("the same calls give the same answers", untouched.equals(Snapshot.of(made)));
        calls.run();
    }

    /** It must answer NONE. */
    private static void none(String call, ToIntFunction<PocketList> asked) {
        refused(call, NONE, asked);
    }

    /** It must answer false. */
    private static void no(String call, Predicate<PocketList> asked) {
        refused(call, 0, x -> asked.test(x) ? 1 : 0);
    }

    private static void refused(String call, int due, ToIntFunction<PocketList> asked) {
        CHECKS.due(call, due, asked.applyAsInt(scene.get()));
        String after = Snapshot.of(() -> {
            PocketList x = scene.get();
            asked.applyAsInt(x);
            return x;
        });
        CHECKS.due(call + " changes nothing", -1, firstDifference(untouched, after));
    }

    private static int firstDifference(String one, String other) {
        String[] mine = one.split("\n");
        String[] others = other.split("\n");
        for (int line = 0; line < mine.length || line < others.length; line++) {
            if (line >= mine.length || line >= others.length || !mine[line].equals(others[line])) {
                System.out.println("was: " + (line < mine.length ? mine[line] : "nothing")
                        + ", is: " + (line < others.length ? others[line] : "nothing"));
                return line;
            }
        }
        return -1;
    }

    private static PocketList oneDevice() {
        PocketList x = new PocketList(1);
        x.device(NONE);
        return x;
    }

    /** Three devices that know different DEEDS; a THING that is there, one STRUCK, one gone, one that 1 alone knows. */
    private static PocketList house() {
        PocketList x = new PocketList(0);
        x.device(NONE);
        x.device(0);
        x.device(0);
        x.put(0, 5, 3);
        x.put(0, 6, 2);
        x.put(0, 7, 1);
        x.undo(0);
        x.strike(0, STRUCK);
        x.meet(0, 1);
        x.meet(0, 2);
        x.put(1, 5, 4);
        x.count(1, HERE, 2);
        x.buy(1, OF_1_ALONE, 1);
        x.view(1, 1);
        return x;
    }

    private static PocketList fourDevices() {
        PocketList x = house();
        x.device(1);
        return x;
    }

    private static PocketList fullDevice() {
        PocketList x = house();
        for (int n = 5; n < 40; n++) {
            x.count(0, HERE, 1);
        }
        return x;
    }

    private static void withoutDevices() {
        for (int from : new int[] {LEAST, -2, 0, 1, 3, 4, GREATEST}) {
            none("device(" + from + ")", x -> x.device(from));
        }
        for (int d : new int[] {LEAST, NONE, 0, 3, 4, GREATEST}) {
            none("meet(" + d + ", 0)", x -> x.meet(d, 0));
            none("meet(" + d + ", 1)", x -> x.meet(d, 1));
            byNoDevice(d);
        }
        none("rows()", x -> x.rows());
        none("row(0, 0)", x -> x.row(0, 0));
        refused("thing(0, 0)", -10000, x -> x.thing(0, 0));
    }

    /** All calls of a device, but for what makes or joins devices. */
    private static void byNoDevice(int d) {
        none("put by " + d, x -> x.put(d, 1, 1));
        no("count by " + d, x -> x.count(d, HERE, 1));
        no("buy by " + d, x -> x.buy(d, HERE, 1));
        no("strike by " + d, x -> x.strike(d, HERE));
        no("back by " + d, x -> x.back(d, STRUCK));
        no("move by " + d, x -> x.move(d, HERE, NONE));
        no("name by " + d, x -> x.name(d, HERE, 1));
        none("undo by " + d, x -> x.undo(d));
        no("view of " + d, x -> x.view(d, NONE));
        no("view of " + d + ", 0", x -> x.view(d, 0));
        none("knows of " + d, x -> x.knows(d, 0, 0, 0));
        none("knows of " + d + ", 1", x -> x.knows(d, 0, 0, 1));
        none("knows of 0 of " + d, x -> x.knows(0, d, 0, 0));
        none("knows of 0 of " + d + ", 1", x -> x.knows(0, d, 0, 1));
        none("knows of 0 that " + d + " knew", x -> x.knows(0, 0, d, 1));
        none("keeps of " + d, x -> x.keeps(d));
        none("deed of " + d, x -> x.deed(d, 0, 0));
    }

    private static void withoutDeeds() {
        none("device(NONE), there is one", x -> x.device(NONE));
        none("device(1)", x -> x.device(1));
        none("meet(0, 0)", x -> x.meet(0, 0));
        none("meet(0, 1)", x -> x.meet(0, 1));
        none("undo(0), it has none", x -> x.undo(0));
        none("deed(0, 0, 0)", x -> x.deed(0, 0, 0));
        no("view(0, 0)", x -> x.view(0, 0));
        for (int thing : NOT_THERE) {
            ofThing(0, thing);
        }
        ofThing(0, HERE);
        none("rows()", x -> x.rows());
        none("row(0, 0)", x -> x.row(0, 0));
        refused("thing(0, 0)", -10000, x -> x.thing(0, 0));
    }

    /** All DEEDS of a THING that isn't there for the device. */
    private static void ofThing(int d, int thing) {
        no("count of " + thing, x -> x.count(d, thing, 1));
        no("buy of " + thing, x -> x.buy(d, thing, 1));
        no("strike of " + thing, x -> x.strike(d, thing));
        no("back of " + thing, x -> x.back(d, thing));
        no("move of " + thing, x -> x.move(d, thing, NONE));
        no("move of " + thing + " behind one that is there", x -> x.move(d, thing, HERE));
        no("name of " + thing, x -> x.name(d, thing, 1));
    }

    private static void inTheHouse() {
        for (int d : NO_DEVICE) {
            none("device(" + d + ")", x -> x.device(d));
            none("meet(" + d + ", 0)", x -> x.meet(d, 0));
            none("meet(0, " + d + ")", x -> x.meet(0, d));
            none("meet(" + d + ", " + d + ")", x -> x.meet(d, d));
            byNoDevice(d);
        }
        for (int d = 0; d < 3; d++) {
            int same = d;
            none("meet(" + d + ", " + d + "), the same", x -> x.meet(same, same));
        }
        none("undo(2), it knows DEEDS but did none", x -> x.undo(2));
        for (int thing : NOT_THERE) {
            ofThing(0, thing);
            if (thing != NONE) {
                no("move behind " + thing, x -> x.move(0, HERE, thing));
            }
        }
        wrongAmounts();
        wrongStates();
        wrongViews();
        wrongQuestions();
    }

    private static void wrongAmounts() {
        for (int wrong : new int[] {LEAST, -1, 0, 1000, GREATEST}) {
            none("put with the name " + wrong, x -> x.put(0, wrong, 1));
            no("name " + wrong, x -> x.name(0, HERE, wrong));
        }
        for (int wrong : new int[] {LEAST, -1, 100, GREATEST}) {
            none("put with the count " + wrong, x -> x.put(0, 1, wrong));
        }
        for (int wrong : new int[] {LEAST, -100, 0, 100, GREATEST}) {
            no("count by " + wrong, x -> x.count(0, HERE, wrong));
        }
        for (int wrong : new int[] {LEAST, -1, 0, 100, GREATEST}) {
            no("buy " + wrong, x -> x.buy(0, HERE, wrong));
        }
    }

    private static void wrongStates() {
        for (int d = 0; d < 3; d++) {
            int by = d;
            no("count of a STRUCK one", x -> x.count(by, STRUCK, 1));
            no("buy of a STRUCK one", x -> x.buy(by, STRUCK, 1));
            no("strike of a STRUCK one", x -> x.strike(by, STRUCK));
            no("move of a STRUCK one", x -> x.move(by, STRUCK, NONE));
            no("move of a STRUCK one behind another", x -> x.move(by, STRUCK, HERE));
            no("name of a STRUCK one", x -> x.name(by, STRUCK, 1));
            no("back of one that isn't STRUCK", x -> x.back(by, HERE));
            no("back of one that is gone", x -> x.back(by, GONE));
            no("move behind itself", x -> x.move(by, HERE, HERE));
            no("move of a STRUCK one behind itself", x -> x.move(by, STRUCK, STRUCK));
            no("move behind one that is gone", x -> x.move(by, HERE, GONE));
        }
        no("move behind one that 1 alone knows", x -> x.move(2, HERE, OF_1_ALONE));
        no("count of one that 1 alone knows", x -> x.count(2, OF_1_ALONE, 1));
    }

    private static void wrongViews() {
        for (int n : new int[] {LEAST, -40, -2, 5, 6, 39, 40, 41, GREATEST}) {
            no("view(0, " + n + ")", x -> x.view(0, n));
        }
        no("view(1, 3), it has done 3", x -> x.view(1, 3));
        no("view(2, 0), it has done none", x -> x.view(2, 0));
        no("view(-1, 40)", x -> x.view(-1, 40));
        no("view(1, -40)", x -> x.view(1, -40));
    }

    private static void wrongQuestions() {
        wrongWhat("row", 7, NONE, what -> x -> x.row(0, what));
        wrongWhat("thing", 5, -10000, what -> x -> x.thing(HERE, what));
        wrongWhat("knows", 2, NONE, what -> x -> x.knows(0, 0, 1, what));
        wrongWhat("deed", 4, NONE, what -> x -> x.deed(0, 0, what));
        wrongWhat("about", 5, NONE, what -> x -> x.about(what));
        for (int i : new int[] {LEAST, -1, 1, 2, 159, 160, GREATEST}) {
            none("row(" + i + ", 0), there is one row", x -> x.row(i, 0));
        }
        for (int thing : new int[] {LEAST, NONE, GONE, 3, 4, 5, 39, 41, 42, 80, 159, 160, GREATEST}) {
            refused("thing(" + thing + ", 0)", -10000, x -> x.thing(thing, 0));
        }
        for (int n : new int[] {LEAST, -40, -1, 5, 39, 40, GREATEST}) {
            none("deed(0, " + n + ", 0), it has done 5", x -> x.deed(0, n, 0));
        }
    }

    private static void wrongWhat(String call, int tooLarge, int due, IntFunction<ToIntFunction<PocketList>> asked) {
        for (int what : new int[] {LEAST, -1, tooLarge, tooLarge + 1, GREATEST}) {
            refused(call + " with what " + what, due, asked.apply(what));
        }
    }

    private static void withFourDevices() {
        for (int from : new int[] {LEAST, -2, NONE, 0, 1, 2, 3, 4, GREATEST}) {
            none("device(" + from + "), there are 4", x -> x.device(from));
        }
        none("meet(0, 4)", x -> x.meet(0, 4));
        none("meet(4, 3)", x -> x.meet(4, 3));
        none("meet(3, 3)", x -> x.meet(3, 3));
        byNoDevice(4);
        byNoDevice(NONE);
    }

    private static void withAFullDevice() {
        none("put", x -> x.put(0, 1, 1));
        no("count", x -> x.count(0, HERE, 1));
        no("buy", x -> x.buy(0, HERE, 1));
        no("strike", x -> x.strike(0, HERE));
        no("back", x -> x.back(0, STRUCK));
        no("move", x -> x.move(0, HERE, NONE));
        no("move behind another", x -> x.move(0, HERE, STRUCK));
        no("name", x -> x.name(0, HERE, 1));
        none("undo", x -> x.undo(0));
        no("view(0, 40)", x -> x.view(0, 40));
        none("deed(0, 40, 0)", x -> x.deed(0, 40, 0));
    }
}
