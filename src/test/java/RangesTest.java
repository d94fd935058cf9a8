import java.util.function.IntFunction;
import java.util.function.IntPredicate;
import java.util.function.IntUnaryOperator;
import java.util.function.Supplier;

/** Of each range that the document names: the last numbers inside it and the first ones outside, on both sides. */
public final class RangesTest {
    private static final int NONE = PocketList.NONE;
    private static final int NOT_THERE = -10000;
    private static final int LEAST = Integer.MIN_VALUE, GREATEST = Integer.MAX_VALUE;

    private static final Checks CHECKS = new Checks();

    public static void main(String[] args) {
        names();
        amounts();
        deviceNumbers();
        devicesOfDeeds();
        deedNumbers();
        thingNumbers();
        rowNumbers();
        questions();
        anyStrikesWin();
        CHECKS.end();
    }

    /** So many devices that know all of these: thing 0 there, thing 1 STRUCK; the VIEW is that of 0. */
    private static PocketList house(int devices) {
        PocketList x = new PocketList(0);
        x.device(NONE);
        x.put(0, 5, 3);
        x.put(0, 6, 2);
        x.strike(0, 1);
        for (int d = 1; d < devices; d++) {
            x.device(0);
        }
        x.view(0, NONE);
        return x;
    }

    /** Each number is tried on an object made anew. */
    private static void within(String range, int first, int last, IntPredicate isTaken) {
        for (int inside : new int[] {first, first + (last - first) / 2, last}) {
            CHECKS.yes(range + ": " + inside, isTaken.test(inside));
        }
        for (int outside : new int[] {LEAST, first - 1, last + 1, GREATEST}) {
            CHECKS.no(range + ": " + outside, isTaken.test(outside));
        }
    }

    private static void withinOr(String range, int first, int last, int refused, IntUnaryOperator answer) {
        within(range, first, last, number -> answer.applyAsInt(number) != refused);
    }

    private static void names() {
        CHECKS.part("NAMES 1 .. 999");
        within("put", 1, 999, name -> house(1).put(0, name, 1) == 3);
        within("name", 1, 999, name -> house(1).name(0, 0, name));
        for (int name : new int[] {1, 2, 998, 999}) {
            PocketList x = house(1);
            x.put(0, name, 1);
            CHECKS.due("thing(3, 1), put", name, x.thing(3, 1));
            CHECKS.due("row(1, 1), put", name, x.row(1, 1));
            x.name(0, 0, name);
            CHECKS.due("thing(0, 1), named", name, x.thing(0, 1));
            CHECKS.due("row(0, 1), named", name, x.row(0, 1));
            CHECKS.due("rows(), both have the name", 1, x.rows());
        }
    }

    private static void amounts() {
        CHECKS.part("amounts");
        within("PUT with a count 0 .. 99", 0, 99, count -> house(1).put(0, 7, count) == 3);
        within("COUNT -99 .. 99", -99, 99, by -> by == 0 || house(1).count(0, 0, by));
        CHECKS.no("COUNT, not 0", house(1).count(0, 0, 0));
        CHECKS.yes("COUNT 1", house(1).count(0, 0, 1));
        CHECKS.yes("COUNT -1", house(1).count(0, 0, -1));
        within("BUY 1 .. 99", 1, 99, many -> house(1).buy(0, 0, many));
        for (int amount : new int[] {1, 99}) {
            PocketList x = house(1);
            x.put(0, 7, amount);
            CHECKS.due("a put's count", amount, x.thing(3, 2));
            x.count(0, 0, amount);
            CHECKS.due("counted", 3 + amount, x.thing(0, 2));
            x.count(0, 0, -amount);
            CHECKS.due("counted back", 3, x.thing(0, 2));
            x.buy(0, 0, amount);
            CHECKS.due("bought", amount, x.thing(0, 3));
        }
        PocketList none = house(1);
        none.put(0, 7, 0);
        CHECKS.due("a put's count of 0", 0, none.thing(3, 2));
        CHECKS.due("is a row", 2, none.rows());
    }

    /** With as many devices as there may be, and with fewer. */
    private static void deviceNumbers() {
        for (int devices = 1; devices <= 4; devices++) {
            CHECKS.part("DEVICES 0 .. " + (devices - 1));
            int many = devices;
            int last = devices - 1;
            Supplier<PocketList> house = () -> house(many);
            within("meet, the first", 0, last, d -> (d == 0 && many == 1) || meetsAnother(house.get(), d));
            within("view", 0, last, d -> house.get().view(d, NONE));
            withinOr("knows, d", 0, last, NONE, d -> house.get().knows(d, 0, 0, 0));
            withinOr("knows, d, what 1", 0, last, NONE, d -> house.get().knows(d, 0, 0, 1));
            withinOr("knows, e", 0, last, NONE, e -> house.get().knows(0, e, 0, 0));
            withinOr("knows, e, what 1", 0, last, NONE, e -> house.get().knows(0, e, 0, 1));
            withinOr("knows, f", 0, last, NONE, f -> house.get().knows(0, 0, f, 1));
            withinOr("keeps", 0, last, NONE, d -> house.get().keeps(d));
            if (devices < 4) {
                within("device", 0, last, from -> house.get().device(from) == many);
            } else {
                for (int from : new int[] {NONE, 0, 3, 4}) {
                    CHECKS.due("device(" + from + "), there are 4", NONE, house.get().device(from));
                }
            }
        }
    }

    private static boolean meetsAnother(PocketList x, int d) {
        int other = d == 0 ? 1 : 0;
        int there = x.meet(d, other);
        CHECKS.due("meet(" + other + ", " + d + "), the other way round", there, x.meet(other, d));
        return there == 3;
    }

    private static void devicesOfDeeds() {
        for (int devices = 1; devices <= 4; devices++) {
            CHECKS.part("DEEDS of DEVICES 0 .. " + (devices - 1));
            int many = devices;
            int last = devices - 1;
            Supplier<PocketList> house = () -> house(many);
            within("put", 0, last, d -> house.get().put(d, 1, 1) == (d == 0 ? 3 : 40 * d));
            within("count", 0, last, d -> house.get().count(d, 0, 1));
            within("buy", 0, last, d -> house.get().buy(d, 0, 1));
            within("strike", 0, last, d -> house.get().strike(d, 0));
            within("back", 0, last, d -> house.get().back(d, 1));
            within("move", 0, last, d -> house.get().move(d, 0, NONE));
            within("move behind another", 0, last, d -> house.get().move(d, 0, 1));
            within("name", 0, last, d -> house.get().name(d, 0, 1));
            within("undo", 0, last, d -> undoesItsOwn(house.get(), d));
            within("deed", 0, last, d -> tellsItsFirst(house.get(), d));
        }
    }

    private static boolean undoesItsOwn(PocketList x, int d) {
        x.name(d, 0, 7);
        return x.undo(d) == (d == 0 ? 3 : 0);
    }

    private static boolean tellsItsFirst(PocketList x, int d) {
        x.name(d, 0, 7);
        return x.deed(d, 0, 0) == (d == 0 ? 0 : 6);
    }

    /** A DEED's n: 0 up to the last that was done, 39 at most. */
    private static void deedNumbers() {
        for (int done : new int[] {1, 2, 39, 40}) {
            CHECKS.part("n 0 .. " + (done - 1));
            IntFunction<PocketList> after = d -> {
                PocketList x = new PocketList(0);
                x.device(NONE);
                x.device(0);
                for (int n = 0; n < done; n++) {
                    x.put(d, 1, 1);
                }
                return x;
            };
            for (int d = 0; d < 2; d++) {
                int by = d;
                withinOr("deed", 0, done - 1, NONE, n -> after.apply(by).deed(by, n, 0));
                within("view, from NONE on", NONE, done - 1, n -> after.apply(by).view(by, n));
                CHECKS.due("deed of the other one", NONE, after.apply(by).deed(1 - by, 0, 0));
                CHECKS.no("view of the other one", after.apply(by).view(1 - by, 0));
            }
        }
    }

    private static void thingNumbers() {
        CHECKS.part("a THING's number");
        for (int d = 0; d < 4; d++) {
            PocketList x = new PocketList(0);
            x.device(NONE);
            for (int e = 1; e < 4; e++) {
                x.device(0);
            }
            x.view(d, NONE);
            for (int n = 0; n < 40; n++) {
                CHECKS.due("put", 40 * d + n, x.put(d, 1 + n, 1));
            }
            withinOr("thing", 40 * d, 40 * d + 39, NOT_THERE, thing -> x.thing(thing, 1));
            CHECKS.due("the NAME of the last one", 40, x.thing(40 * d + 39, 1));
        }
        PocketList x = house(2);
        CHECKS.due("n counts all DEEDS, not PUTS alone", 3, x.put(0, 7, 1));
        x.count(0, 3, 1);
        x.undo(0);
        CHECKS.due("UNDOS, too", 6, x.put(0, 7, 1));
        CHECKS.due("but not what was refused", NONE, x.put(0, 0, 1));
        CHECKS.due("the next", 7, x.put(0, 7, 1));
        CHECKS.due("nor another's", 40, x.put(1, 7, 1));
    }

    private static void rowNumbers() {
        for (int rows = 1; rows <= 40; rows += 13) {
            CHECKS.part("ROWS 0 .. " + (rows - 1));
            PocketList x = new PocketList(0);
            x.device(NONE);
            x.view(0, NONE);
            for (int name = 1; name <= rows; name++) {
                x.put(0, name, 1);
            }
            withinOr("row", 0, rows - 1, NONE, i -> x.row(i, 0));
        }
        CHECKS.part("ROWS that are no more");
        PocketList x = house(1);
        x.put(0, 7, 1);
        CHECKS.due("rows()", 2, x.rows());
        x.strike(0, 3);
        CHECKS.due("row(1, 0), STRUCK", NONE, x.row(1, 0));
        x.strike(0, 0);
        CHECKS.due("rows()", 0, x.rows());
        CHECKS.due("row(0, 0), all are STRUCK", NONE, x.row(0, 0));
    }

    /** Whatever is asked has an answer other than that for others. */
    private static void questions() {
        CHECKS.part("what");
        withinOr("row", 0, 6, NONE, what -> house(1).row(0, what));
        withinOr("thing", 0, 4, NOT_THERE, what -> house(1).thing(0, what));
        withinOr("thing, STRUCK", 0, 4, NOT_THERE, what -> house(1).thing(1, what));
        withinOr("knows", 0, 1, NONE, what -> house(2).knows(0, 0, 1, what));
        withinOr("deed", 0, 3, NONE, what -> house(1).deed(0, 0, what));
        withinOr("about", 0, 4, NONE, what -> {
            PocketList x = house(1);
            x.view(0, 1);
            return x.about(what);
        });
    }

    private static void anyStrikesWin() {
        CHECKS.part("strikes win, if the number isn't 0");
        for (int number : new int[] {LEAST, -2, -1, 0, 1, 2, GREATEST}) {
            PocketList x = new PocketList(number);
            x.device(NONE);
            x.device(0);
            x.put(0, 5, 1);
            x.meet(0, 1);
            x.strike(0, 0);
            x.count(1, 0, 1);
            x.meet(0, 1);
            x.view(0, NONE);
            CHECKS.due("thing(0, 0), " + number, number == 0 ? 0 : 1, x.thing(0, 0));
            CHECKS.due("about(2), " + number, number == 0 ? 0 : 1, x.about(2));
        }
    }
}
