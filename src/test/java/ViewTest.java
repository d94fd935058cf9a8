/** A VIEW and what is told about it: as of now, as of a DEED, of nothing, none, and one after another. */
public final class ViewTest {
    private static final int NONE = PocketList.NONE;
    private static final int GONE = -10000;
    private static final int KEEPER = 0, COUNT = 2, BOUGHT = 3, LEFT = 4, THINGS = 5, DOUBLE = 6;
    private static final int STRUCK = 0, PLACE = 4;
    private static final int VIEWED = 3, VIEWED_N = 4;

    private static final Checks CHECKS = new Checks();

    public static void main(String[] args) {
        noView();
        aboutTheView();
        refusedViewChangesNothing();
        viewAtEachTime();
        viewHoldsItsOwnDeed();
        viewHoldsNoLaterMeeting();
        viewsGoBackAndForth();
        viewOfNothing();
        aboutDevicesAndDeeds();
        CHECKS.end();
    }

    private static void due(String call, long want, long got) {
        CHECKS.due(call, want, got);
    }

    /** So many devices that have met before any DEED was done, and THE VIEW of the first. */
    private static PocketList house(int devices) {
        PocketList x = new PocketList(0);
        x.device(NONE);
        for (int d = 1; d < devices; d++) {
            x.device(0);
        }
        x.view(0, NONE);
        return x;
    }

    private static void dueView(String after, PocketList x, int device, int n) {
        due(after + ": about(3)", device, x.about(VIEWED));
        due(after + ": about(4)", n, x.about(VIEWED_N));
    }

    private static void dueNoAnswer(PocketList x) {
        dueView("no VIEW", x, NONE, NONE);
        due("rows()", NONE, x.rows());
        for (int what = 0; what < 7; what++) {
            due("row(0, " + what + ")", NONE, x.row(0, what));
        }
        for (int what = 0; what < 5; what++) {
            due("thing(0, " + what + ")", GONE, x.thing(0, what));
        }
    }

    private static void noView() {
        CHECKS.part("THE VIEW: none");
        PocketList x = new PocketList(1);
        dueNoAnswer(x);
        x.device(NONE);
        dueNoAnswer(x);
        x.put(0, 5, 3);
        x.device(0);
        x.meet(0, 1);
        dueNoAnswer(x);
        CHECKS.no("view(2, NONE)", x.view(2, NONE));
        CHECKS.no("view(0, 1)", x.view(0, 1));
        dueNoAnswer(x);
        CHECKS.yes("view(0, NONE)", x.view(0, NONE));
        due("rows()", 1, x.rows());
        due("row(0, 2)", 3, x.row(0, COUNT));
        due("thing(0, 2)", 3, x.thing(0, COUNT));
    }

    private static void aboutTheView() {
        CHECKS.part("about THE VIEW's device and its n");
        PocketList x = house(4);
        dueView("view(0, NONE)", x, 0, NONE);
        for (int d = 0; d < 4; d++) {
            x.put(d, 1, 1);
            x.put(d, 1, 1);
            for (int n = NONE; n < 2; n++) {
                CHECKS.yes("view(" + d + ", " + n + ")", x.view(d, n));
                dueView("view(" + d + ", " + n + ")", x, d, n);
            }
        }
        x.put(3, 1, 1);
        x.meet(0, 3);
        x.undo(3);
        dueView("DEEDS and MEETINGS leave it", x, 3, 1);
        CHECKS.yes("view(3, 1), the same again", x.view(3, 1));
        dueView("the same again", x, 3, 1);
    }

    private static void refusedViewChangesNothing() {
        CHECKS.part("view: false, changing nothing, for others");
        PocketList x = house(2);
        x.put(0, 5, 3);
        x.put(0, 6, 2);
        for (int n = NONE; n < 2; n++) {
            x.view(0, n);
            for (int[] wrong : new int[][] {{0, 2}, {0, -2}, {0, 40}, {1, 0}, {2, NONE}, {2, 0}, {NONE, NONE}, {NONE, 0}}) {
                CHECKS.no("view(" + wrong[0] + ", " + wrong[1] + ")", x.view(wrong[0], wrong[1]));
                dueView("a refused one", x, 0, n);
                due("rows()", n == 0 ? 1 : 2, x.rows());
            }
        }
    }

    private static void viewAtEachTime() {
        CHECKS.part("n NONE: at each time that it is asked");
        PocketList x = house(2);
        x.put(0, 5, 3);
        due("rows(), its own", 1, x.rows());
        x.put(1, 6, 2);
        due("rows(), the other's, not yet known", 1, x.rows());
        x.meet(1, 0);
        due("rows(), met", 2, x.rows());
        x.undo(0);
        due("rows(), UNDONE", 1, x.rows());
        x.strike(1, 40);
        due("rows(), STRUCK, not yet known", 1, x.rows());
        x.meet(1, 0);
        due("rows(), STRUCK", 0, x.rows());
        due("device(1)", 2, x.device(1));
        CHECKS.yes("view(2, NONE)", x.view(2, NONE));
        due("thing(40, 0), as the new one knows it", 1, x.thing(40, STRUCK));
        x.back(2, 40);
        due("rows()", 1, x.rows());
    }

    private static void viewHoldsItsOwnDeed() {
        CHECKS.part("II. a VIEW: what it knew as it had done its n-th");
        PocketList x = house(1);
        for (int n = 0; n < 40; n++) {
            x.put(0, n + 1, 1);
        }
        for (int n : new int[] {0, 1, 38, 39}) {
            CHECKS.yes("view(0, " + n + ")", x.view(0, n));
            due("rows(), the n-th itself is in it", n + 1, x.rows());
            due("the n-th", n, x.thing(n, PLACE));
            due("the next", GONE, x.thing(n + 1, PLACE));
            due("row, the last", n, x.row(n, KEEPER));
            due("row, the next", NONE, x.row(n + 1, KEEPER));
        }
    }

    private static void viewHoldsNoLaterMeeting() {
        CHECKS.part("II. a VIEW: what it knew, not what it learnt since");
        PocketList x = house(2);
        x.put(1, 9, 4);
        x.put(0, 5, 3);
        x.meet(0, 1);
        x.view(0, 0);
        due("rows(), met after it", 1, x.rows());
        due("thing(40, 2)", GONE, x.thing(40, COUNT));
        x.count(0, 0, 1);
        x.view(0, 1);
        due("rows(), met before it", 2, x.rows());
        due("thing(40, 2)", 4, x.thing(40, COUNT));
        x.count(1, 40, 5);
        x.count(0, 0, 10);
        x.meet(0, 1);
        due("thing(40, 2), it stays", 4, x.thing(40, COUNT));
        due("thing(0, 2), it stays", 4, x.thing(0, COUNT));
        x.strike(0, 0);
        due("thing(0, 0), it stays", 0, x.thing(0, STRUCK));
        x.view(1, 0);
        due("rows(), the other's first", 1, x.rows());
        due("thing(40, 2)", 4, x.thing(40, COUNT));
        due("thing(0, 2)", GONE, x.thing(0, COUNT));
    }

    /** Nothing of one VIEW is left over in the next. */
    private static void viewsGoBackAndForth() {
        CHECKS.part("II. VIEWS one after another");
        PocketList x = house(2);
        x.put(0, 5, 3);
        x.put(0, 6, 2);
        x.buy(0, 0, 9);
        x.strike(0, 1);
        x.back(0, 1);
        x.name(0, 1, 5);
        x.strike(0, 0);
        int[] rows = {1, 2, 2, 1, 2, 1, 1};
        int[] struckOf0 = {0, 0, 0, 0, 0, 0, 1};
        int[] struckOf1 = {GONE, 0, 0, 1, 0, 0, 0};
        int[] keepers = {0, 0, 0, 0, 0, 0, 1};
        int[] bought = {0, 0, 9, 9, 9, 9, 0};
        int[] many = {1, 1, 1, 1, 1, 2, 1};
        for (int n : new int[] {6, 5, 4, 3, 2, 1, 0, 6, 0, 5, 1, 4, 2, 3, 6, 2}) {
            CHECKS.yes("view(0, " + n + ")", x.view(0, n));
            due("rows() as of " + n, rows[n], x.rows());
            due("thing(0, 0) as of " + n, struckOf0[n], x.thing(0, STRUCK));
            due("thing(1, 0) as of " + n, struckOf1[n], x.thing(1, STRUCK));
            due("row(0, 0) as of " + n, keepers[n], x.row(0, KEEPER));
            due("row(0, 3) as of " + n, bought[n], x.row(0, BOUGHT));
            due("row(0, 5) as of " + n, many[n], x.row(0, THINGS));
            due("a row too many as of " + n, NONE, x.row(rows[n], KEEPER));
        }
    }

    private static void viewOfNothing() {
        CHECKS.part("II. a VIEW with nothing in it");
        PocketList x = house(2);
        due("rows()", 0, x.rows());
        for (int what = 0; what < 7; what++) {
            due("row(0, " + what + ")", NONE, x.row(0, what));
        }
        for (int what = 0; what < 5; what++) {
            due("thing(0, " + what + ")", GONE, x.thing(0, what));
        }
        x.put(1, 5, 1);
        due("rows(), 1's DEED isn't known to 0", 0, x.rows());
        x.view(1, NONE);
        due("rows()", 1, x.rows());
        x.view(0, NONE);
        due("rows(), nothing is left over", 0, x.rows());
        due("row(0, 4)", NONE, x.row(0, LEFT));
        due("row(0, 6)", NONE, x.row(0, DOUBLE));
        due("thing(40, 0)", GONE, x.thing(40, STRUCK));
    }

    private static void aboutDevicesAndDeeds() {
        CHECKS.part("about devices and DEEDS");
        PocketList x = new PocketList(0);
        due("about(0), none yet", 0, x.about(0));
        due("about(1), none yet", 0, x.about(1));
        x.device(0);
        due("about(0), refused", 0, x.about(0));
        for (int d = 0; d < 4; d++) {
            x.device(d - 1);
            due("about(0)", d + 1, x.about(0));
        }
        x.device(3);
        due("about(0), there are 4", 4, x.about(0));
        for (int d = 0; d < 4; d++) {
            x.put(d, 1, 1);
            x.put(d, 0, 1);
            due("about(1), of all devices, none that was refused", d + 1, x.about(1));
        }
        x.undo(0);
        due("about(1), an UNDO is one more", 5, x.about(1));
        x.undo(0);
        due("about(1), refused", 5, x.about(1));
        x.meet(0, 1);
        due("about(1), a MEETING is none", 5, x.about(1));
    }
}
