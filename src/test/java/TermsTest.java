/** Terms I and what is UNDONE: each sentence that names a boundary case by itself. */
public final class TermsTest {
    private static final int NONE = PocketList.NONE;
    private static final int GONE = -10000;
    private static final int KEEPER = 0, NAME = 1, COUNT = 2, BOUGHT = 3;
    private static final int STRUCK = 0, PLACE = 4;
    private static final int SORT = 0, STAMP = 1, KNOWS = 3;

    private static final Checks CHECKS = new Checks();

    public static void main(String[] args) {
        firstStamp();
        stampIsMoreThanTheGreatest();
        undoHasAStamp();
        deedKnowsAllBefore();
        meetingPassesOnWhatWasLearnt();
        likeStampsStandByDevices();
        laterStampsStandBehind();
        undoTakesTheLatest();
        undoIsNotUndone();
        undoOfEachSort();
        undoUnknownToAnother();
        undoneIsThereInViewsFromBefore();
        deedsOfAnUndonePut();
        CHECKS.end();
    }

    private static void due(String call, long want, long got) {
        CHECKS.due(call, want, got);
    }

    /** So many devices that have met before any DEED was done, and THE VIEW of the first. */
    private static PocketList house(int devices) {
        PocketList x = new PocketList(0);
        x.device(NONE);
        for (int d = 1; d < devices; d++) {
            x.device(0);
        }
        x.view(0, NONE);
        return x;
    }

    private static void putAll(PocketList x, int d, int many) {
        for (int name = 1; name <= many; name++) {
            x.put(d, name, 1);
        }
    }

    private static void firstStamp() {
        CHECKS.part("I. STAMP: 1, if there is none");
        PocketList x = house(4);
        for (int d = 0; d < 4; d++) {
            x.put(d, 1, 1);
            due("deed(" + d + ", 0, 1), it knows no other's", 1, x.deed(d, 0, STAMP));
            due("deed(" + d + ", 0, 3)", 0, x.deed(d, 0, KNOWS));
        }
    }

    private static void stampIsMoreThanTheGreatest() {
        CHECKS.part("I. STAMP: 1 more than the greatest of all DEEDS that it knows");
        PocketList x = house(3);
        putAll(x, 0, 5);
        putAll(x, 1, 2);
        x.meet(0, 1);
        x.put(0, 9, 1);
        due("its own was the greatest", 6, x.deed(0, 5, STAMP));
        x.put(1, 9, 1);
        due("another's was the greatest", 6, x.deed(1, 2, STAMP));
        x.put(1, 9, 1);
        due("of 0's later one it knows nothing", 7, x.deed(1, 3, STAMP));
        x.put(2, 9, 1);
        due("it knows none of them", 1, x.deed(2, 0, STAMP));
        x.meet(2, 0);
        x.put(2, 9, 1);
        due("what 0 had from 1 is known, too", 7, x.deed(2, 1, STAMP));
        x.put(0, 0, 1);
        x.put(0, 9, 1);
        due("no gap for a call that was refused", 7, x.deed(0, 6, STAMP));
    }

    private static void undoHasAStamp() {
        CHECKS.part("I. an UNDO is a DEED with a STAMP");
        PocketList x = house(2);
        putAll(x, 0, 2);
        x.undo(0);
        due("deed(0, 2, 1)", 3, x.deed(0, 2, STAMP));
        due("deed(0, 2, 3)", 2, x.deed(0, 2, KNOWS));
        x.undo(0);
        x.put(0, 1, 1);
        due("deed(0, 4, 1), what is UNDONE still counts", 5, x.deed(0, 4, STAMP));
        x.meet(0, 1);
        x.put(1, 1, 1);
        due("deed(1, 0, 1)", 6, x.deed(1, 0, STAMP));
    }

    private static void deedKnowsAllBefore() {
        CHECKS.part("I. KNOWS: all that its device knows as it does it");
        PocketList x = house(3);
        putAll(x, 0, 3);
        putAll(x, 1, 2);
        x.meet(0, 1);
        x.put(1, 9, 1);
        x.meet(1, 2);
        x.put(2, 9, 1);
        due("deed(0, 2, 3), not itself", 2, x.deed(0, 2, KNOWS));
        due("deed(1, 1, 3), none of 0's", 1, x.deed(1, 1, KNOWS));
        due("deed(1, 2, 3)", 5, x.deed(1, 2, KNOWS));
        due("deed(2, 0, 3)", 6, x.deed(2, 0, KNOWS));
        x.meet(0, 2);
        due("deed(0, 2, 3), it stays", 2, x.deed(0, 2, KNOWS));
        due("deed(1, 1, 3), it stays", 1, x.deed(1, 1, KNOWS));
    }

    private static void meetingPassesOnWhatWasLearnt() {
        CHECKS.part("I. when two MEET both know what either did");
        PocketList x = house(4);
        for (int d = 0; d < 4; d++) {
            putAll(x, d, d + 1);
            due("knows, its own at once", d + 1, x.knows(d, d, d, 0));
        }
        due("meet(0, 1)", 3, x.meet(0, 1));
        due("meet(2, 3)", 7, x.meet(2, 3));
        due("meet(1, 2)", 10, x.meet(1, 2));
        due("knows(1, 3, ..)", 4, x.knows(1, 3, 0, 0));
        due("knows(2, 0, ..)", 1, x.knows(2, 0, 0, 0));
        due("knows(0, 2, ..), it wasn't there", 0, x.knows(0, 2, 0, 0));
        due("knows(3, 1, ..), it wasn't there", 0, x.knows(3, 1, 0, 0));
        due("meet(3, 0), neither has all", 10, x.meet(3, 0));
        due("meet(2, 1), nothing is new", 10, x.meet(2, 1));
    }

    private static void dueLine(PocketList x, int... things) {
        for (int place = 0; place < things.length; place++) {
            due("the place of " + things[place], place, x.thing(things[place], PLACE));
        }
    }

    private static void likeStampsStandByDevices() {
        CHECKS.part("I. of like STAMPS by devices");
        PocketList x = house(4);
        for (int d = 3; d >= 0; d--) {
            x.put(d, 7, 1);
        }
        for (int d = 3; d > 0; d--) {
            x.meet(0, d);
        }
        dueLine(x, 0, 40, 80, 120);
        due("row(0, 0)", 0, x.row(0, KEEPER));
        for (int d = 0; d < 4; d++) {
            x.name(d, 0, 10 + d);
        }
        for (int d = 1; d < 4; d++) {
            x.meet(0, d);
            due("the NAME of the last device", 10 + d, x.thing(0, NAME));
        }
    }

    private static void laterStampsStandBehind() {
        CHECKS.part("I. DEEDS stand in line by STAMPS");
        PocketList x = house(2);
        putAll(x, 0, 3);
        putAll(x, 1, 2);
        x.meet(0, 1);
        dueLine(x, 0, 40, 1, 41, 2);
        x.count(1, 0, 1);
        x.name(1, 0, 30);
        x.name(0, 0, 20);
        x.meet(0, 1);
        due("thing(0, 1), the greater STAMP, though done before", 30, x.thing(0, NAME));
        x.name(0, 1, 50);
        x.name(0, 1, 51);
        x.name(1, 1, 60);
        x.meet(0, 1);
        due("thing(1, 1), the greater STAMP of the lesser device", 51, x.thing(1, NAME));
    }

    private static void undoTakesTheLatest() {
        CHECKS.part("I. UNDO: the latest DEED of the same device");
        PocketList x = house(2);
        due("undo(0), nothing done", NONE, x.undo(0));
        x.put(0, 5, 1);
        x.meet(0, 1);
        x.count(1, 0, 7);
        x.meet(0, 1);
        due("undo(0), not the other's later one", 0, x.undo(0));
        due("undo(1), though the THING is gone", 0, callAfterMeeting(x));
        due("undo(1), none left", NONE, x.undo(1));
        due("undo(0), none left", NONE, x.undo(0));
        x.put(0, 5, 1);
        due("undo(0), a new one", 2, x.undo(0));
    }

    private static int callAfterMeeting(PocketList x) {
        x.meet(0, 1);
        return x.undo(1);
    }

    private static void undoIsNotUndone() {
        CHECKS.part("I. UNDO: one that is no UNDO and isn't UNDONE");
        PocketList x = house(1);
        x.put(0, 5, 0);
        for (int n = 1; n <= 3; n++) {
            x.count(0, 0, n);
        }
        due("undo(0)", 3, x.undo(0));
        due("undo(0) again", 2, x.undo(0));
        due("thing(0, 2)", 1, x.thing(0, COUNT));
        x.count(0, 0, 50);
        due("undo(0), the one between", 6, x.undo(0));
        due("undo(0), behind all that are UNDONE", 1, x.undo(0));
        due("undo(0), the PUT", 0, x.undo(0));
        due("undo(0), all are UNDONE", NONE, x.undo(0));
        due("about(1), a refused one is no DEED", 10, x.about(1));
        due("deed(0, 9, 0)", 7, x.deed(0, 9, SORT));
        due("deed(0, 9, 2), n of what is UNDONE", 0, x.deed(0, 9, 2));
        due("deed(0, 5, 2)", 2, x.deed(0, 5, 2));
        due("deed(0, 0, 0), the DEED is told still", 0, x.deed(0, 0, SORT));
    }

    /** Things 0, 1 and, STRUCK, 2. */
    private static PocketList three() {
        PocketList x = house(1);
        x.put(0, 5, 3);
        x.put(0, 6, 2);
        x.put(0, 7, 1);
        x.strike(0, 2);
        return x;
    }

    private static void undoOfEachSort() {
        CHECKS.part("I. what is UNDONE, of each sort");
        PocketList x = three();
        x.count(0, 0, 5);
        due("undo of COUNT", 4, x.undo(0));
        due("thing(0, 2)", 3, x.thing(0, COUNT));
        x.buy(0, 0, 5);
        due("undo of BUY", 6, x.undo(0));
        due("thing(0, 3)", 0, x.thing(0, BOUGHT));
        x.strike(0, 0);
        due("undo of STRIKE", 8, x.undo(0));
        due("thing(0, 0)", 0, x.thing(0, STRUCK));
        x.back(0, 2);
        due("undo of BACK", 10, x.undo(0));
        due("thing(2, 0)", 1, x.thing(2, STRUCK));
        x.move(0, 1, NONE);
        due("undo of MOVE", 12, x.undo(0));
        dueLine(x, 0, 1, 2);
        x.name(0, 0, 9);
        due("undo of NAME", 14, x.undo(0));
        due("thing(0, 1)", 5, x.thing(0, NAME));
        x.put(0, 8, 1);
        due("undo of PUT", 16, x.undo(0));
        due("thing(16, 0)", GONE, x.thing(16, STRUCK));
        due("rows()", 2, x.rows());
    }

    private static void undoUnknownToAnother() {
        CHECKS.part("II. UNDONE by an UNDO in it: not for one that doesn't know it");
        PocketList x = house(2);
        x.put(0, 5, 3);
        x.count(0, 0, 4);
        x.meet(0, 1);
        x.undo(0);
        x.undo(0);
        x.view(1, NONE);
        due("thing(0, 2), as 1 knows it", 7, x.thing(0, COUNT));
        CHECKS.yes("count(1, 0, 1)", x.count(1, 0, 1));
        due("thing(0, 2)", 8, x.thing(0, COUNT));
        x.view(0, NONE);
        due("thing(0, 2), as 0 knows it", GONE, x.thing(0, COUNT));
        CHECKS.no("count(0, 0, 1)", x.count(0, 0, 1));
        x.meet(1, 0);
        x.view(1, NONE);
        due("thing(0, 2), now 1 knows of the UNDO", GONE, x.thing(0, COUNT));
        CHECKS.no("count(1, 0, 1)", x.count(1, 0, 1));
    }

    private static void undoneIsThereInViewsFromBefore() {
        CHECKS.part("II. a VIEW from before the UNDO");
        PocketList x = house(1);
        x.put(0, 5, 3);
        x.count(0, 0, 4);
        x.undo(0);
        x.undo(0);
        int[] counts = {3, 7, 3, GONE};
        int[] rows = {1, 1, 1, 0};
        for (int n : new int[] {3, 0, 2, 1, 3, 1, 0}) {
            x.view(0, n);
            due("thing(0, 2) as of " + n, counts[n], x.thing(0, COUNT));
            due("rows() as of " + n, rows[n], x.rows());
        }
        x.view(0, NONE);
        due("thing(0, 2) now", GONE, x.thing(0, COUNT));
    }

    private static void deedsOfAnUndonePut() {
        CHECKS.part("II. nor are DEEDS of a THING whose PUT is so");
        PocketList x = house(3);
        x.put(0, 5, 3);
        x.put(0, 5, 1);
        x.meet(0, 1);
        x.meet(0, 2);
        x.count(1, 1, 9);
        x.buy(1, 1, 2);
        x.buy(2, 0, 1);
        x.name(1, 0, 6);
        x.move(1, 1, NONE);
        x.meet(0, 1);
        x.meet(0, 2);
        dueLine(x, 1, 0);
        due("undo(0), of the PUT of 1", 1, x.undo(0));
        due("thing(1, 0)", GONE, x.thing(1, STRUCK));
        dueLine(x, 0);
        due("rows()", 1, x.rows());
        int[] row = {0, 6, 3, 1, 2, 1, 0};
        for (int what = 0; what < row.length; what++) {
            due("row(0, " + what + ")", row[what], x.row(0, what));
        }
        due("knows(0, 1, ..), the DEEDS are known still", 4, x.knows(0, 1, 0, 0));
        due("keeps(0), the UNDO and 2's BUY, of which 1 doesn't know", 2, x.keeps(0));
        x.put(0, 5, 8);
        due("a new THING of the NAME has its own number", 8, x.thing(3, COUNT));
        due("thing(1, 0), it doesn't come again", GONE, x.thing(1, STRUCK));
    }
}
