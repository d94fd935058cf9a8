import java.util.function.ToIntFunction;

/** All that there may be: 4 devices, 40 DEEDS of each, the greatest sums, and an object's 512 calls. */
public final class FullTest {
    private static final int NONE = PocketList.NONE;
    private static final int GONE = -10000;
    private static final int KEEPER = 0, COUNT = 2, BOUGHT = 3, LEFT = 4, THINGS = 5, DOUBLE = 6;
    private static final int STRUCK = 0, PLACE = 4;

    private static final Checks CHECKS = new Checks();

    public static void main(String[] args) {
        fortiethOfEachSort();
        undoAsTheFortieth();
        halfIsUndone();
        allApart();
        allOfOneName();
        greatestStamp();
        greatestAndLeastSums();
        allMoves();
        othersGoOn();
        callsUpToTheLast();
        moreCallsNeverThrow();
        CHECKS.end();
    }

    private static void due(String call, long want, long got) {
        CHECKS.due(call, want, got);
    }

    private static PocketList house(int devices, int strikesWin) {
        PocketList x = new PocketList(strikesWin);
        x.device(NONE);
        for (int d = 1; d < devices; d++) {
            x.device(0);
        }
        x.view(0, NONE);
        return x;
    }

    private static void allMeet(PocketList x) {
        for (int d = 1; d < 4; d++) {
            x.meet(0, d);
        }
        for (int d = 1; d < 4; d++) {
            x.meet(0, d);
        }
    }

    private static int bit(boolean is) {
        return is ? 1 : 0;
    }

    /** The 40th (n is 39) is done, the next one is refused. */
    private static void fortieth(String sort, int want, int refused, ToIntFunction<PocketList> call) {
        PocketList x = house(2, 0);
        x.put(0, 1, 1);
        x.put(0, 2, 1);
        x.strike(0, 1);
        for (int n = 3; n < 39; n++) {
            CHECKS.yes("count, n is " + n, x.count(0, 0, 1));
        }
        due("deed(0, 39, 0), not yet", NONE, x.deed(0, 39, 0));
        due(sort + " as the 40th", want, call.applyAsInt(x));
        CHECKS.yes("deed(0, 39, 0), now", x.deed(0, 39, 0) != NONE);
        due("about(1)", 40, x.about(1));
        due(sort + " as the 41st", refused, call.applyAsInt(x));
        due("put as the 41st", NONE, x.put(0, 1, 1));
        due("about(1)", 40, x.about(1));
        due("knows(0, 0, ..)", 40, x.knows(0, 0, 0, 0));
        due("deed(0, 40, 0)", NONE, x.deed(0, 40, 0));
    }

    private static void fortiethOfEachSort() {
        CHECKS.part("if the device has done 40 (so for all DEEDS)");
        fortieth("put", 39, NONE, x -> x.put(0, 5, 1));
        fortieth("count", 1, 0, x -> bit(x.count(0, 0, 1)));
        fortieth("buy", 1, 0, x -> bit(x.buy(0, 0, 1)));
        fortieth("strike", 1, 0, x -> bit(x.strike(0, 0)));
        fortieth("back", 1, 0, x -> bit(x.back(0, 1)));
        fortieth("move", 1, 0, x -> bit(x.move(0, 0, NONE)));
        fortieth("move behind another", 1, 0, x -> bit(x.move(0, 0, 1)));
        fortieth("name", 1, 0, x -> bit(x.name(0, 0, 7)));
        fortieth("undo", 38, NONE, x -> x.undo(0));
    }

    private static void undoAsTheFortieth() {
        CHECKS.part("an UNDO, if the device has done 40");
        PocketList x = house(1, 0);
        for (int n = 0; n < 39; n++) {
            x.put(0, n + 1, 1);
        }
        due("rows()", 39, x.rows());
        due("undo(0), the 40th DEED", 38, x.undo(0));
        due("rows()", 38, x.rows());
        due("undo(0), it has done 40, though 38 could be UNDONE", NONE, x.undo(0));
        due("rows()", 38, x.rows());
    }

    private static void halfIsUndone() {
        CHECKS.part("20 DEEDS, and all UNDONE");
        PocketList x = house(1, 0);
        for (int n = 0; n < 20; n++) {
            x.put(0, n + 1, 1);
        }
        for (int n = 19; n >= 0; n--) {
            due("undo(0)", n, x.undo(0));
            due("rows()", n, x.rows());
            due("thing that is UNDONE", GONE, x.thing(n, STRUCK));
        }
        due("undo(0), none is left", NONE, x.undo(0));
        due("put(0, 1, 1), though nothing is there", NONE, x.put(0, 1, 1));
        due("rows()", 0, x.rows());
        CHECKS.yes("view(0, 19)", x.view(0, 19));
        due("rows(), before the first UNDO", 20, x.rows());
    }

    private static void allApart() {
        CHECKS.part("160 THINGS of 160 NAMES");
        PocketList x = house(4, 0);
        for (int n = 0; n < 40; n++) {
            for (int d = 0; d < 4; d++) {
                due("put(" + d + ")", 40 * d + n, x.put(d, 40 * d + n + 1, 1));
            }
        }
        due("keeps(3)", 40, x.keeps(3));
        due("meet(0, 1)", 80, x.meet(0, 1));
        due("meet(0, 2)", 120, x.meet(0, 2));
        due("meet(0, 3)", 160, x.meet(0, 3));
        due("about(1)", 160, x.about(1));
        due("rows()", 160, x.rows());
        for (int thing : new int[] {0, 39, 40, 79, 80, 119, 120, 159}) {
            int place = 4 * (thing % 40) + thing / 40;
            due("thing(" + thing + ", 4), by STAMPS, then devices", place, x.thing(thing, PLACE));
            due("row(" + place + ", 0)", thing, x.row(place, KEEPER));
        }
        due("row(160, 0)", NONE, x.row(160, KEEPER));
        due("thing(160, 0)", GONE, x.thing(160, STRUCK));
        due("deed(3, 39, 1)", 40, x.deed(3, 39, 1));
        due("deed(3, 39, 3)", 39, x.deed(3, 39, 3));
        due("knows(3, 0, ..)", 40, x.knows(3, 0, 0, 0));
        due("keeps(3), what 0 and 1 did all know", 80, x.keeps(3));
        x.meet(0, 1);
        x.meet(0, 2);
        due("keeps(0)", 0, x.keeps(0));
        due("device(0), there are 4", NONE, x.device(0));
        for (int d = 0; d < 4; d++) {
            due("put(" + d + "), it has done 40", NONE, x.put(d, 1, 1));
            due("undo(" + d + "), it has done 40", NONE, x.undo(d));
        }
    }

    private static void allOfOneName() {
        CHECKS.part("160 THINGS of one NAME");
        PocketList x = house(4, 0);
        for (int d = 3; d >= 0; d--) {
            for (int n = 0; n < 40; n++) {
                x.put(d, 999, 99);
            }
        }
        allMeet(x);
        int[] row = {0, 999, 160 * 99, 0, 160 * 99, 160, 0};
        due("rows()", 1, x.rows());
        for (int what = 0; what < row.length; what++) {
            due("row(0, " + what + ")", row[what], x.row(0, what));
        }
        due("row(1, 0)", NONE, x.row(1, KEEPER));
    }

    /** 160 DEEDS, each done by one that knows all before it. */
    private static void greatestStamp() {
        CHECKS.part("the greatest STAMP");
        PocketList x = house(4, 0);
        for (int i = 0; i < 160; i++) {
            due("put", 40 * (i % 4) + i / 4, x.put(i % 4, 1, 1));
            due("meet", i + 1, x.meet((i + 1) % 4, i % 4));
        }
        due("deed(3, 39, 1)", 160, x.deed(3, 39, 1));
        due("deed(3, 39, 3)", 159, x.deed(3, 39, 3));
        due("thing(159, 4)", 159, x.thing(159, PLACE));
        CHECKS.yes("view(3, 39)", x.view(3, 39));
        due("row(0, 5)", 160, x.row(0, THINGS));
        CHECKS.yes("view(0, 39)", x.view(0, 39));
        due("row(0, 5), three less", 157, x.row(0, THINGS));
    }

    private static void greatestAndLeastSums() {
        CHECKS.part("the greatest and least sums");
        PocketList x = house(1, 0);
        x.put(0, 1, 99);
        for (int d = 1; d < 4; d++) {
            x.device(0);
        }
        fillWithCounts(x, 99);
        allMeet(x);
        due("thing(0, 2)", 160 * 99, x.thing(0, COUNT));
        due("row(0, 2)", 160 * 99, x.row(0, COUNT));
        x = house(1, 0);
        x.put(0, 1, 0);
        for (int d = 1; d < 4; d++) {
            x.device(0);
        }
        fillWithCounts(x, -99);
        allMeet(x);
        due("thing(0, 2), as it is, below what is told for others", -159 * 99, x.thing(0, COUNT));
        due("thing(0, 0), it is there", 0, x.thing(0, STRUCK));
        due("row(0, 2)", 0, x.row(0, COUNT));
        due("row(0, 4)", 0, x.row(0, LEFT));
        greatestBought();
    }

    private static void fillWithCounts(PocketList x, int by) {
        for (int d = 0; d < 4; d++) {
            for (int n = d == 0 ? 1 : 0; n < 40; n++) {
                CHECKS.yes("count(" + d + ", 0, " + by + ")", x.count(d, 0, by));
            }
        }
    }

    private static void greatestBought() {
        PocketList x = house(1, 0);
        x.put(0, 1, 99);
        for (int d = 1; d < 4; d++) {
            x.device(0);
        }
        for (int d = 0; d < 4; d++) {
            for (int n = d == 0 ? 1 : 0; n < 40; n++) {
                CHECKS.yes("buy(" + d + ", 0, 99)", x.buy(d, 0, 99));
            }
        }
        due("row(0, 6), 0 knows its own alone", 0, x.row(0, DOUBLE));
        allMeet(x);
        due("thing(0, 3)", 159 * 99, x.thing(0, BOUGHT));
        due("row(0, 3)", 159 * 99, x.row(0, BOUGHT));
        due("row(0, 4)", 0, x.row(0, LEFT));
        due("row(0, 6)", 1, x.row(0, DOUBLE));
    }

    private static void allMoves() {
        CHECKS.part("as many MOVES as there may be");
        PocketList x = house(1, 0);
        for (int n = 0; n < 20; n++) {
            x.put(0, n + 1, 1);
        }
        for (int thing = 0; thing < 20; thing++) {
            CHECKS.yes("move(0, " + thing + ", NONE)", x.move(0, thing, NONE));
        }
        for (int thing = 0; thing < 20; thing++) {
            due("the line is turned round", 19 - thing, x.thing(thing, PLACE));
            due("so are the rows", thing, x.row(19 - thing, KEEPER));
        }
    }

    private static void othersGoOn() {
        CHECKS.part("a device that has done 40, and others");
        PocketList x = house(2, 0);
        for (int n = 0; n < 40; n++) {
            x.put(0, 1, 1);
        }
        due("put(0, 1, 1)", NONE, x.put(0, 1, 1));
        due("put(1, 1, 1)", 40, x.put(1, 1, 1));
        due("meet(0, 1), it meets still", 41, x.meet(0, 1));
        due("row(0, 5), it learns still", 41, x.row(0, THINGS));
        due("device(0), one comes from it still", 2, x.device(0));
        due("knows(2, 0, ..)", 40, x.knows(2, 0, 0, 0));
        CHECKS.yes("count(2, 39, 1)", x.count(2, 39, 1));
        due("deed(2, 0, 1)", 41, x.deed(2, 0, 1));
        due("put(0, 1, 1)", NONE, x.put(0, 1, 1));
    }

    /** 512 calls after it has been made; the last one is answered as it is due. */
    private static void callsUpToTheLast() {
        CHECKS.part("an object is used for 512 calls");
        PocketList x = house(4, 0);
        int calls = 5;
        for (int i = 0; i < 160; i++) {
            due("put", 40 * (i % 4) + i / 4, x.put(i % 4, i + 1, 1));
            due("meet, call " + (calls + 1), i + 1, x.meet((i + 1) % 4, i % 4));
            calls += 2;
        }
        for (int i = 0; calls < 510; i++) {
            due("row(" + i % 160 + ", 0), call " + calls, 40 * (i % 4) + i / 4 % 40, x.row(i % 160, KEEPER));
            calls++;
        }
        due("about(1), call 511", 160, x.about(1));
        due("rows(), call 512", 160, x.rows());
    }

    /** What these answer is free, but no call may throw. */
    private static void moreCallsNeverThrow() {
        CHECKS.part("calls of all kinds with all kinds of numbers");
        int[] numbers = {Integer.MIN_VALUE, -10000, -100, -40, -2, -1, 0, 1, 3, 4, 39, 40, 99, 100, 120, 159, 160, 999,
            1000, Integer.MAX_VALUE};
        for (int devices = 0; devices < 5; devices++) {
            PocketList x = new PocketList(devices % 2);
            for (int d = 0; d < devices; d++) {
                x.device(d - 1);
            }
            for (int round = 0; round < 3; round++) {
                for (int a : numbers) {
                    for (int b : numbers) {
                        for (int c : numbers) {
                            callAll(x, a, b, c);
                        }
                    }
                }
            }
            CHECKS.yes("about(0) is " + devices + " at least", x.about(0) >= devices);
        }
    }

    private static void callAll(PocketList x, int a, int b, int c) {
        x.meet(a, b);
        x.put(a, b, c);
        x.count(a, b, c);
        x.buy(a, b, c);
        x.strike(a, b);
        x.back(a, b);
        x.move(a, b, c);
        x.name(a, b, c);
        x.undo(c);
        x.view(a, b);
        x.rows();
        x.row(a, b);
        x.thing(a, b);
        x.knows(a, b, c, 0);
        x.knows(a, b, c, 1);
        x.knows(0, a, b, c);
        x.keeps(a);
        x.deed(a, b, c);
        x.about(a);
        x.device(b);
    }
}
