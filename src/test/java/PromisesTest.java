/** Each promise of the document by itself: ordinary calls, the edges it names, wrong calls. */
public final class PromisesTest {
    private static final int NONE = PocketList.NONE;
    private static final int GONE = -10000;
    private static final int KEEPER = 0, NAME = 1, COUNT = 2, BOUGHT = 3, LEFT = 4, THINGS = 5, DOUBLE = 6;
    private static final int STRUCK = 0, PLACE = 4;
    private static final int LEAST = Integer.MIN_VALUE, GREATEST = Integer.MAX_VALUE;

    private static final Checks CHECKS = new Checks();

    public static void main(String[] args) {
        newObject();
        devices();
        meetings();
        puts();
        counts();
        buys();
        strikes();
        backs();
        moves();
        names();
        undos();
        undoneThings();
        views();
        rowsInOrder();
        rowSums();
        doubles();
        things();
        knowing();
        keeping();
        deeds();
        about();
        fullDevice();
        CHECKS.end();
    }

    private static void due(String call, long want, long got) {
        CHECKS.due(call, want, got);
    }

    private static void yes(String call, boolean got) {
        CHECKS.yes(call, got);
    }

    private static void no(String call, boolean got) {
        CHECKS.no(call, got);
    }

    /** So many devices that know nothing, and THE VIEW on the first. */
    private static PocketList withDevices(int many, int strikesWin) {
        PocketList x = new PocketList(strikesWin);
        x.device(NONE);
        for (int d = 1; d < many; d++) {
            x.device(0);
        }
        x.view(0, NONE);
        return x;
    }

    private static void newObject() {
        CHECKS.part("promise 1");
        for (int wins : new int[] {0, 1, 2, -1, LEAST, GREATEST}) {
            PocketList x = new PocketList(wins);
            due("about(0)", 0, x.about(0));
            due("about(1)", 0, x.about(1));
            due("about(2) of " + wins, wins == 0 ? 0 : 1, x.about(2));
            due("about(3)", NONE, x.about(3));
            due("about(4)", NONE, x.about(4));
            due("rows()", NONE, x.rows());
            due("row(0, 0)", NONE, x.row(0, 0));
            due("thing(0, 0)", GONE, x.thing(0, 0));
            due("put(0, 1, 1)", NONE, x.put(0, 1, 1));
            due("keeps(0)", NONE, x.keeps(0));
            due("knows(0, 0, 0, 0)", NONE, x.knows(0, 0, 0, 0));
            due("deed(0, 0, 0)", NONE, x.deed(0, 0, 0));
            no("view(0, NONE)", x.view(0, NONE));
        }
    }

    private static void devices() {
        CHECKS.part("promise 2");
        PocketList x = new PocketList(0);
        due("device(0), none yet", NONE, x.device(0));
        due("device(-2)", NONE, x.device(-2));
        due("device(NONE)", 0, x.device(NONE));
        due("device(NONE), there is one", NONE, x.device(NONE));
        due("device(1), not there", NONE, x.device(1));
        x.put(0, 5, 1);
        x.put(0, 6, 1);
        due("device(0)", 1, x.device(0));
        due("knows(1, 0, 0, 0)", 2, x.knows(1, 0, 0, 0));
        due("knows(1, 0, 0, 1)", 2, x.knows(1, 0, 0, 1));
        due("knows(0, 0, 1, 1)", 2, x.knows(0, 0, 1, 1));
        due("keeps(0)", 0, x.keeps(0));
        x.put(1, 7, 1);
        due("device(1)", 2, x.device(1));
        due("knows(2, 0, 0, 0)", 2, x.knows(2, 0, 0, 0));
        due("knows(2, 1, 0, 0)", 1, x.knows(2, 1, 0, 0));
        due("knows(2, 0, 0, 1), told by 1", 2, x.knows(2, 0, 0, 1));
        due("knows(2, 1, 0, 1)", 0, x.knows(2, 1, 0, 1));
        due("knows(0, 1, 0, 0)", 0, x.knows(0, 1, 0, 0));
        due("device(GREATEST)", NONE, x.device(GREATEST));
        due("device(LEAST)", NONE, x.device(LEAST));
        due("device(0)", 3, x.device(0));
        due("device(0), there are 4", NONE, x.device(0));
        due("about(0)", 4, x.about(0));
    }

    private static void meetings() {
        CHECKS.part("promise 3");
        PocketList x = withDevices(3, 0);
        x.put(0, 1, 1);
        x.put(1, 2, 1);
        x.put(1, 3, 1);
        due("meet(0, 0)", NONE, x.meet(0, 0));
        due("meet(0, 3)", NONE, x.meet(0, 3));
        due("meet(3, 0)", NONE, x.meet(3, 0));
        due("meet(NONE, 0)", NONE, x.meet(NONE, 0));
        due("meet(0, NONE)", NONE, x.meet(0, NONE));
        due("meet(LEAST, GREATEST)", NONE, x.meet(LEAST, GREATEST));
        due("knows(0, 1, 0, 0)", 0, x.knows(0, 1, 0, 0));
        due("meet(0, 1)", 3, x.meet(0, 1));
        due("knows(0, 1, 0, 0)", 2, x.knows(0, 1, 0, 0));
        due("knows(1, 0, 0, 0)", 1, x.knows(1, 0, 0, 0));
        due("knows(2, 0, 0, 0)", 0, x.knows(2, 0, 0, 0));
        x.put(2, 4, 1);
        due("meet(2, 1), what 0 did comes along", 4, x.meet(2, 1));
        due("knows(2, 0, 0, 0)", 1, x.knows(2, 0, 0, 0));
        due("meet(0, 2)", 4, x.meet(0, 2));
        due("meet(0, 2) again", 4, x.meet(0, 2));
    }

    private static void puts() {
        CHECKS.part("promise 4");
        PocketList x = withDevices(4, 0);
        due("put(0, 1, 0)", 0, x.put(0, 1, 0));
        due("put(0, 999, 99)", 1, x.put(0, 999, 99));
        due("put(3, 5, 5)", 120, x.put(3, 5, 5));
        int[][] wrong = {{0, 0, 1}, {0, 1000, 1}, {0, 1, -1}, {0, 1, 100}, {4, 1, 1}, {NONE, 1, 1},
            {0, LEAST, 1}, {0, GREATEST, 1}, {0, 1, LEAST}, {0, 1, GREATEST}, {LEAST, 1, 1}, {GREATEST, 1, 1}};
        for (int[] w : wrong) {
            due("put " + w[0] + " " + w[1] + " " + w[2], NONE, x.put(w[0], w[1], w[2]));
        }
        due("about(1)", 3, x.about(1));
        due("thing(0, 2)", 0, x.thing(0, COUNT));
        due("thing(1, 1)", 999, x.thing(1, NAME));
        due("thing(1, 2)", 99, x.thing(1, COUNT));
        due("thing(120, 1), 0 doesn't know it", GONE, x.thing(120, NAME));
    }

    private static void counts() {
        CHECKS.part("promise 5");
        PocketList x = withDevices(2, 0);
        x.put(0, 5, 3);
        yes("count(0, 0, 99)", x.count(0, 0, 99));
        due("thing(0, 2)", 102, x.thing(0, COUNT));
        yes("count(0, 0, -99)", x.count(0, 0, -99));
        yes("count(0, 0, -7)", x.count(0, 0, -7));
        due("thing(0, 2), as it is", -4, x.thing(0, COUNT));
        due("row(0, 2), 0 at least", 0, x.row(0, COUNT));
        no("count(0, 0, 0)", x.count(0, 0, 0));
        no("count(0, 0, 100)", x.count(0, 0, 100));
        no("count(0, 0, -100)", x.count(0, 0, -100));
        no("count(0, 0, LEAST)", x.count(0, 0, LEAST));
        no("count(0, 0, GREATEST)", x.count(0, 0, GREATEST));
        no("count(1, 0, 1), 1 doesn't know it", x.count(1, 0, 1));
        no("count(2, 0, 1)", x.count(2, 0, 1));
        no("count(NONE, 0, 1)", x.count(NONE, 0, 1));
        for (int thing : new int[] {NONE, 1, 2, 40, 159, 160, LEAST, GREATEST}) {
            no("count(0, " + thing + ", 1)", x.count(0, thing, 1));
        }
        x.meet(0, 1);
        yes("count(1, 0, 1)", x.count(1, 0, 1));
        x.strike(0, 0);
        no("count(0, 0, 1), struck", x.count(0, 0, 1));
        due("about(1)", 6, x.about(1));
    }

    private static void buys() {
        CHECKS.part("promise 6");
        PocketList x = withDevices(2, 0);
        x.put(0, 5, 99);
        yes("buy(0, 0, 1)", x.buy(0, 0, 1));
        yes("buy(0, 0, 99)", x.buy(0, 0, 99));
        due("thing(0, 3)", 100, x.thing(0, BOUGHT));
        due("thing(0, 2)", 99, x.thing(0, COUNT));
        for (int many : new int[] {0, -1, 100, LEAST, GREATEST}) {
            no("buy(0, 0, " + many + ")", x.buy(0, 0, many));
        }
        no("buy(1, 0, 1), 1 doesn't know it", x.buy(1, 0, 1));
        no("buy(2, 0, 1)", x.buy(2, 0, 1));
        for (int thing : new int[] {NONE, 1, 2, 40, 160, LEAST, GREATEST}) {
            no("buy(0, " + thing + ", 1)", x.buy(0, thing, 1));
        }
        x.strike(0, 0);
        no("buy(0, 0, 1), struck", x.buy(0, 0, 1));
        due("about(1)", 4, x.about(1));
    }

    /** Which change, done apart from a strike, keeps it from holding. */
    private static void strikeAgainst(String change, int strikesWin, int due) {
        PocketList x = withDevices(2, strikesWin);
        x.put(0, 5, 3);
        x.put(0, 6, 3);
        x.meet(0, 1);
        yes("strike(0, 0)", x.strike(0, 0));
        due("thing(0, 0)", 1, x.thing(0, STRUCK));
        switch (change) {
            case "count": x.count(1, 0, 1); break;
            case "buy": x.buy(1, 0, 1); break;
            case "move": x.move(1, 0, 1); break;
            case "move behind it": x.move(1, 1, 0); break;
            case "name": x.name(1, 0, 7); break;
            case "strike": x.strike(1, 0); break;
            case "undone count": x.count(1, 0, 1); x.undo(1); break;
            case "count of another": x.count(1, 1, 1); break;
            default: break;
        }
        x.meet(0, 1);
        due("thing(0, 0) after " + change + " apart, strikes win " + strikesWin, due, x.thing(0, STRUCK));
    }

    private static void strikes() {
        CHECKS.part("promise 7");
        for (String change : new String[] {"count", "buy", "move", "name"}) {
            strikeAgainst(change, 0, 0);
            strikeAgainst(change, 1, 1);
        }
        for (String change : new String[] {"move behind it", "strike", "undone count", "count of another"}) {
            strikeAgainst(change, 0, 1);
            strikeAgainst(change, 1, 1);
        }
        PocketList x = withDevices(2, 0);
        x.put(0, 5, 3);
        no("strike(1, 0), 1 doesn't know it", x.strike(1, 0));
        no("strike(2, 0)", x.strike(2, 0));
        no("strike(NONE, 0)", x.strike(NONE, 0));
        for (int thing : new int[] {NONE, 1, 40, 160, LEAST, GREATEST}) {
            no("strike(0, " + thing + ")", x.strike(0, thing));
        }
        x.count(0, 0, 1);
        x.buy(0, 0, 1);
        x.name(0, 0, 6);
        yes("strike(0, 0), it knows all", x.strike(0, 0));
        due("thing(0, 0)", 1, x.thing(0, STRUCK));
        due("rows()", 0, x.rows());
        no("strike(0, 0), struck", x.strike(0, 0));
        due("undo(0)", 4, x.undo(0));
        due("thing(0, 0), undone", 0, x.thing(0, STRUCK));
        due("about(1)", 6, x.about(1));
    }

    private static void backs() {
        CHECKS.part("promise 8");
        PocketList x = withDevices(2, 1);
        x.put(0, 5, 3);
        no("back(0, 0), not struck", x.back(0, 0));
        x.meet(0, 1);
        x.strike(0, 0);
        x.strike(1, 0);
        no("back(2, 0)", x.back(2, 0));
        no("back(0, 1)", x.back(0, 1));
        no("back(0, NONE)", x.back(0, NONE));
        no("back(0, 160)", x.back(0, 160));
        no("back(LEAST, GREATEST)", x.back(LEAST, GREATEST));
        yes("back(0, 0)", x.back(0, 0));
        due("thing(0, 0)", 0, x.thing(0, STRUCK));
        no("back(0, 0), struck no more", x.back(0, 0));
        x.meet(0, 1);
        due("thing(0, 0), of the other strike the back knew nothing", 1, x.thing(0, STRUCK));
        yes("back(1, 0)", x.back(1, 0));
        x.meet(0, 1);
        due("thing(0, 0)", 0, x.thing(0, STRUCK));
        yes("strike(0, 0) anew", x.strike(0, 0));
        due("thing(0, 0)", 1, x.thing(0, STRUCK));
        yes("back(0, 0)", x.back(0, 0));
        due("undo(0), of the back", 4, x.undo(0));
        due("thing(0, 0)", 1, x.thing(0, STRUCK));
    }

    private static void dueLine(PocketList x, int... things) {
        for (int place = 0; place < things.length; place++) {
            due("thing(" + things[place] + ", 4)", place, x.thing(things[place], PLACE));
        }
    }

    private static void moves() {
        CHECKS.part("promise 9");
        PocketList x = withDevices(2, 0);
        for (int name = 1; name <= 4; name++) {
            x.put(0, name, 1);
        }
        due("thing(3, 4)", 3, x.thing(3, PLACE));
        yes("move(0, 3, NONE)", x.move(0, 3, NONE));
        dueLine(x, 3, 0, 1, 2);
        x = withDevices(2, 0);
        for (int name = 1; name <= 4; name++) {
            x.put(0, name, 1);
        }
        yes("move(0, 0, 2), behind a later one", x.move(0, 0, 2));
        dueLine(x, 1, 2, 0, 3);
        yes("move(0, 3, 1), behind an earlier one", x.move(0, 3, 1));
        x.strike(0, 2);
        yes("move(0, 0, 2), behind a struck one", x.move(0, 0, 2));
        no("move(0, 2, 0), a struck one", x.move(0, 2, 0));
        no("move(0, 2, NONE), a struck one", x.move(0, 2, NONE));
        no("move(0, 0, 0)", x.move(0, 0, 0));
        no("move(0, NONE, NONE)", x.move(0, NONE, NONE));
        no("move(1, 0, NONE), 1 doesn't know it", x.move(1, 0, NONE));
        no("move(2, 0, NONE)", x.move(2, 0, NONE));
        for (int thing : new int[] {-2, 4, 40, 160, LEAST, GREATEST}) {
            no("move(0, 0, " + thing + ")", x.move(0, 0, thing));
            no("move(0, " + thing + ", 0)", x.move(0, thing, 0));
            no("move(0, " + thing + ", NONE)", x.move(0, thing, NONE));
        }
        due("about(1)", 8, x.about(1));
        moveBehindOneThatGoes();
        movesApart();
    }

    private static void moveBehindOneThatGoes() {
        PocketList x = withDevices(2, 0);
        x.put(0, 1, 1);
        x.put(0, 2, 1);
        x.put(0, 3, 1);
        x.meet(0, 1);
        yes("move(1, 0, 2)", x.move(1, 0, 2));
        x.meet(0, 1);
        dueLine(x, 1, 2, 0);
        due("undo(0), of the put of 2", 2, x.undo(0));
        dueLine(x, 1, 0);
    }

    private static void movesApart() {
        PocketList x = withDevices(2, 0);
        x.put(0, 1, 1);
        x.put(0, 2, 1);
        x.put(0, 3, 1);
        x.meet(0, 1);
        x.move(0, 2, NONE);
        x.move(1, 1, NONE);
        x.meet(0, 1);
        due("deed(0, 3, 1)", 4, x.deed(0, 3, 1));
        due("deed(1, 0, 1)", 4, x.deed(1, 0, 1));
        dueLine(x, 1, 2, 0);
    }

    private static void names() {
        CHECKS.part("promise 10");
        PocketList x = withDevices(2, 0);
        x.put(0, 5, 3);
        yes("name(0, 0, 999)", x.name(0, 0, 999));
        due("thing(0, 1)", 999, x.thing(0, NAME));
        yes("name(0, 0, 1)", x.name(0, 0, 1));
        due("thing(0, 1)", 1, x.thing(0, NAME));
        yes("name(0, 0, 1), the same", x.name(0, 0, 1));
        for (int name : new int[] {0, -1, 1000, LEAST, GREATEST}) {
            no("name(0, 0, " + name + ")", x.name(0, 0, name));
        }
        no("name(1, 0, 2), 1 doesn't know it", x.name(1, 0, 2));
        no("name(2, 0, 2)", x.name(2, 0, 2));
        for (int thing : new int[] {NONE, 1, 2, 40, 160, LEAST, GREATEST}) {
            no("name(0, " + thing + ", 2)", x.name(0, thing, 2));
        }
        x.meet(0, 1);
        x.name(1, 0, 20);
        x.name(0, 0, 10);
        x.meet(0, 1);
        due("thing(0, 1), like stamps: by devices", 20, x.thing(0, NAME));
        x.undo(1);
        x.meet(0, 1);
        due("thing(0, 1), undone", 10, x.thing(0, NAME));
        x.strike(0, 0);
        no("name(0, 0, 2), struck", x.name(0, 0, 2));
    }

    private static void undos() {
        CHECKS.part("promise 11");
        PocketList x = withDevices(2, 0);
        due("undo(0), has none", NONE, x.undo(0));
        due("undo(2)", NONE, x.undo(2));
        due("undo(NONE)", NONE, x.undo(NONE));
        due("undo(LEAST)", NONE, x.undo(LEAST));
        due("undo(GREATEST)", NONE, x.undo(GREATEST));
        x.put(0, 5, 3);
        x.count(0, 0, 1);
        x.count(0, 0, 10);
        due("undo(0)", 2, x.undo(0));
        due("thing(0, 2)", 4, x.thing(0, COUNT));
        x.count(0, 0, 20);
        due("undo(0), of the deed after the undo", 4, x.undo(0));
        due("undo(0), no undo and nothing undone", 1, x.undo(0));
        due("thing(0, 2)", 3, x.thing(0, COUNT));
        x.meet(0, 1);
        due("undo(1), others' deeds aren't its own", NONE, x.undo(1));
        due("undo(0), of the put", 0, x.undo(0));
        due("thing(0, 2)", GONE, x.thing(0, COUNT));
        due("undo(0), has none left", NONE, x.undo(0));
        due("about(1)", 8, x.about(1));
    }

    private static void undoneThings() {
        CHECKS.part("terms II, a put undone");
        PocketList x = withDevices(2, 0);
        x.put(0, 5, 3);
        x.put(1, 5, 2);
        x.meet(0, 1);
        x.count(1, 0, 4);
        x.buy(1, 0, 2);
        due("undo(0)", 0, x.undo(0));
        x.meet(0, 1);
        due("thing(0, 0)", GONE, x.thing(0, STRUCK));
        due("rows()", 1, x.rows());
        due("row(0, 0)", 40, x.row(0, KEEPER));
        due("row(0, 2)", 2, x.row(0, COUNT));
        due("row(0, 3)", 0, x.row(0, BOUGHT));
        due("thing(40, 4)", 0, x.thing(40, PLACE));
        for (int d = 0; d < 2; d++) {
            no("count of one that isn't there", x.count(d, 0, 1));
            no("buy of one that isn't there", x.buy(d, 0, 1));
            no("strike of one that isn't there", x.strike(d, 0));
            no("back of one that isn't there", x.back(d, 0));
            no("move of one that isn't there", x.move(d, 0, NONE));
            no("move behind one that isn't there", x.move(d, 40, 0));
            no("name of one that isn't there", x.name(d, 0, 1));
        }
        due("undo(1), a deed of a thing that isn't there", 2, x.undo(1));
    }

    private static void views() {
        CHECKS.part("promise 12");
        PocketList x = withDevices(2, 0);
        x.put(0, 5, 3);
        x.put(1, 6, 2);
        x.meet(0, 1);
        x.count(0, 0, 1);
        x.undo(0);
        yes("view(0, 0)", x.view(0, 0));
        due("rows() as it had done the first", 1, x.rows());
        due("thing(0, 2)", 3, x.thing(0, COUNT));
        due("thing(40, 2)", GONE, x.thing(40, COUNT));
        yes("view(0, 1)", x.view(0, 1));
        due("thing(0, 2), the deed itself", 4, x.thing(0, COUNT));
        due("rows(), what it had learnt", 2, x.rows());
        yes("view(0, 2)", x.view(0, 2));
        due("thing(0, 2), with the undo", 3, x.thing(0, COUNT));
        for (int[] w : new int[][] {{0, 3}, {0, -2}, {0, 39}, {0, 40}, {1, 1}, {2, NONE}, {2, 0}, {NONE, NONE},
            {NONE, 0}, {LEAST, GREATEST}, {0, LEAST}, {0, GREATEST}, {-1, 40}}) {
            no("view " + w[0] + " " + w[1], x.view(w[0], w[1]));
            due("about(3), unchanged", 0, x.about(3));
            due("about(4), unchanged", 2, x.about(4));
        }
        yes("view(1, NONE)", x.view(1, NONE));
        due("about(3)", 1, x.about(3));
        due("about(4)", NONE, x.about(4));
        due("thing(0, 2)", 3, x.thing(0, COUNT));
        x.count(1, 0, 5);
        due("thing(0, 2), at each time", 8, x.thing(0, COUNT));
        x.count(0, 0, 10);
        due("thing(0, 2), 0 hasn't told it", 8, x.thing(0, COUNT));
        x.meet(1, 0);
        due("thing(0, 2), now it has", 18, x.thing(0, COUNT));
    }

    private static void rowsInOrder() {
        CHECKS.part("promise 13");
        PocketList x = withDevices(2, 0);
        due("rows()", 0, x.rows());
        x.put(0, 1, 1);
        x.put(0, 2, 1);
        x.put(0, 3, 1);
        due("rows()", 3, x.rows());
        x.put(0, 1, 1);
        due("rows(), one name is one row", 3, x.rows());
        due("row(0, 0)", 0, x.row(0, KEEPER));
        x.move(0, 3, NONE);
        due("row(0, 0), the keeper is the first put", 0, x.row(0, KEEPER));
        x.move(0, 0, 2);
        due("row(0, 0), rows are in the order of keepers", 1, x.row(0, KEEPER));
        due("row(1, 0)", 2, x.row(1, KEEPER));
        due("row(2, 0)", 0, x.row(2, KEEPER));
        x.strike(0, 0);
        due("rows()", 3, x.rows());
        due("row(0, 0), the keeper is struck, the next one keeps", 3, x.row(0, KEEPER));
        x.strike(0, 3);
        due("rows()", 2, x.rows());
        x.name(0, 1, 3);
        due("rows()", 1, x.rows());
        due("row(0, 0)", 1, x.row(0, KEEPER));
        due("row(0, 5)", 2, x.row(0, THINGS));
        PocketList y = withDevices(3, 0);
        y.put(2, 7, 1);
        y.put(1, 7, 1);
        y.meet(0, 2);
        y.meet(0, 1);
        due("row(0, 0), like stamps: by devices", 40, y.row(0, KEEPER));
    }

    private static void rowSums() {
        CHECKS.part("promise 14");
        PocketList x = withDevices(2, 0);
        x.put(0, 5, 10);
        x.put(0, 5, 4);
        x.put(0, 6, 1);
        x.count(0, 1, -6);
        x.buy(0, 0, 3);
        x.buy(0, 1, 1);
        int[] want = {0, 5, 8, 4, 4, 2, 0};
        for (int what = 0; what < want.length; what++) {
            due("row(0, " + what + ")", want[what], x.row(0, what));
        }
        x.count(0, 1, -20);
        due("row(0, 2), together, 0 at least", 0, x.row(0, COUNT));
        due("row(0, 4), 0 at least", 0, x.row(0, LEFT));
        x.buy(0, 2, 9);
        due("row(1, 2)", 1, x.row(1, COUNT));
        due("row(1, 3)", 9, x.row(1, BOUGHT));
        due("row(1, 4), 0 at least", 0, x.row(1, LEFT));
        x.strike(0, 0);
        due("row(0, 3), of those not struck", 1, x.row(0, BOUGHT));
        due("row(0, 5)", 1, x.row(0, THINGS));
        for (int[] w : new int[][] {{-1, 0}, {2, 0}, {0, -1}, {0, 7}, {160, 0}, {LEAST, 0}, {GREATEST, 0},
            {0, LEAST}, {0, GREATEST}}) {
            due("row " + w[0] + " " + w[1], NONE, x.row(w[0], w[1]));
        }
    }

    private static void doubles() {
        CHECKS.part("promise 14, DOUBLE");
        PocketList x = withDevices(3, 0);
        x.put(0, 5, 10);
        x.put(0, 5, 10);
        x.put(0, 6, 10);
        x.meet(0, 1);
        x.meet(0, 2);
        x.buy(0, 0, 1);
        x.buy(0, 1, 1);
        due("row(0, 6), one device alone", 0, x.row(0, DOUBLE));
        x.meet(0, 1);
        x.buy(1, 0, 1);
        x.meet(0, 1);
        due("row(0, 6), the later one knew", 0, x.row(0, DOUBLE));
        x.buy(2, 2, 1);
        x.meet(0, 2);
        due("row(0, 6), apart, but another row", 0, x.row(0, DOUBLE));
        due("row(1, 6), a row by itself", 0, x.row(1, DOUBLE));
        x.buy(1, 1, 1);
        x.buy(2, 0, 1);
        x.meet(0, 1);
        x.meet(0, 2);
        due("row(0, 6), apart, two things of one row", 1, x.row(0, DOUBLE));
        due("row(1, 6)", 0, x.row(1, DOUBLE));
        x.undo(2);
        x.meet(0, 2);
        due("row(0, 6), one is undone", 0, x.row(0, DOUBLE));
        x.buy(0, 0, 1);
        due("row(0, 6), it knew all", 0, x.row(0, DOUBLE));
    }

    private static void things() {
        CHECKS.part("promise 15");
        PocketList x = withDevices(2, 0);
        x.put(0, 5, 3);
        x.put(0, 6, 2);
        x.count(0, 1, -7);
        x.buy(0, 1, 4);
        x.name(0, 1, 8);
        x.strike(0, 1);
        x.put(0, 7, 1);
        int[] want = {1, 8, -5, 4, 1};
        for (int what = 0; what < want.length; what++) {
            due("thing(1, " + what + ")", want[what], x.thing(1, what));
        }
        due("thing(0, 0)", 0, x.thing(0, STRUCK));
        due("thing(6, 4), struck ones count", 2, x.thing(6, PLACE));
        for (int[] w : new int[][] {{-1, 0}, {2, 0}, {7, 0}, {40, 0}, {159, 0}, {160, 0}, {0, -1}, {0, 5},
            {LEAST, 0}, {GREATEST, 0}, {0, LEAST}, {0, GREATEST}}) {
            due("thing " + w[0] + " " + w[1], GONE, x.thing(w[0], w[1]));
        }
        due("thing of a new object", GONE, new PocketList(0).thing(0, 0));
    }

    private static void knowing() {
        CHECKS.part("promise 16");
        PocketList x = withDevices(3, 0);
        x.put(0, 1, 1);
        x.put(1, 2, 1);
        x.put(1, 3, 1);
        due("knows(0, 0, 0, 0)", 1, x.knows(0, 0, 0, 0));
        due("knows(0, 1, 0, 0)", 0, x.knows(0, 1, 0, 0));
        x.meet(0, 1);
        due("knows(0, 1, 0, 0)", 2, x.knows(0, 1, 0, 0));
        due("knows(0, 0, 1, 1)", 1, x.knows(0, 0, 1, 1));
        due("knows(0, 1, 1, 1)", 2, x.knows(0, 1, 1, 1));
        due("knows(1, 0, 0, 1)", 1, x.knows(1, 0, 0, 1));
        due("knows(0, 0, 2, 1)", 0, x.knows(0, 0, 2, 1));
        x.put(1, 4, 1);
        due("knows(0, 1, 1, 1), not for sure", 2, x.knows(0, 1, 1, 1));
        x.meet(1, 2);
        due("knows(2, 0, 0, 1), told by 1", 1, x.knows(2, 0, 0, 1));
        due("knows(2, 1, 0, 1)", 2, x.knows(2, 1, 0, 1));
        due("knows(2, 1, 1, 1)", 3, x.knows(2, 1, 1, 1));
        due("knows(0, 1, 2, 1), 0 wasn't there", 0, x.knows(0, 1, 2, 1));
        x.meet(0, 2);
        due("knows(0, 1, 1, 1), told by 2", 3, x.knows(0, 1, 1, 1));
        due("knows(0, 1, 2, 1)", 3, x.knows(0, 1, 2, 1));
        x.put(0, 5, 1);
        due("knows(0, 0, 0, 1), of itself, too", 2, x.knows(0, 0, 0, 1));
        for (int[] w : new int[][] {{3, 0, 0, 0}, {0, 3, 0, 0}, {0, 0, 3, 1}, {0, 0, 1, 2}, {0, 0, 1, -1},
            {-1, 0, 0, 0}, {0, -1, 0, 0}, {0, 0, -1, 1}, {LEAST, 0, 0, 0}, {0, GREATEST, 0, 1}, {0, 0, LEAST, 1},
            {0, 0, 1, GREATEST}}) {
            due("knows " + w[0] + " " + w[1] + " " + w[2] + " " + w[3], NONE, x.knows(w[0], w[1], w[2], w[3]));
        }
    }

    private static void keeping() {
        CHECKS.part("promise 17");
        PocketList x = withDevices(1, 0);
        x.put(0, 1, 1);
        due("keeps(0), alone", 0, x.keeps(0));
        x.device(0);
        x.device(0);
        x.put(0, 2, 1);
        due("keeps(0)", 1, x.keeps(0));
        x.meet(0, 1);
        due("keeps(0), 2 doesn't know", 1, x.keeps(0));
        due("keeps(1), told by 0 what 2 knew", 1, x.keeps(1));
        x.meet(1, 2);
        due("keeps(1)", 0, x.keeps(1));
        due("keeps(2)", 0, x.keeps(2));
        due("keeps(0), it wasn't told", 1, x.keeps(0));
        x.meet(0, 2);
        due("keeps(0)", 0, x.keeps(0));
        x.device(2);
        due("keeps(1), a device that it never met", 2, x.keeps(1));
        due("keeps(2)", 0, x.keeps(2));
        for (int d : new int[] {NONE, 4, LEAST, GREATEST}) {
            due("keeps(" + d + ")", NONE, x.keeps(d));
        }
    }

    private static void deeds() {
        CHECKS.part("promise 18");
        PocketList x = withDevices(2, 0);
        x.put(0, 5, 3);
        x.put(0, 6, 3);
        x.count(0, 1, 1);
        x.buy(0, 1, 1);
        x.strike(0, 1);
        x.back(0, 1);
        x.move(0, 1, NONE);
        x.name(0, 1, 7);
        x.undo(0);
        int[] sorts = {0, 0, 1, 2, 3, 4, 5, 6, 7};
        int[] things = {0, 1, 1, 1, 1, 1, 1, 1, 7};
        for (int n = 0; n < sorts.length; n++) {
            due("deed(0, " + n + ", 0)", sorts[n], x.deed(0, n, 0));
            due("deed(0, " + n + ", 1)", n + 1, x.deed(0, n, 1));
            due("deed(0, " + n + ", 2)", things[n], x.deed(0, n, 2));
            due("deed(0, " + n + ", 3)", n, x.deed(0, n, 3));
        }
        x.put(1, 8, 1);
        due("deed(1, 0, 1), it knew none", 1, x.deed(1, 0, 1));
        due("deed(1, 0, 3)", 0, x.deed(1, 0, 3));
        x.meet(0, 1);
        x.put(1, 8, 1);
        due("deed(1, 1, 1), 1 more than the greatest", 10, x.deed(1, 1, 1));
        due("deed(1, 1, 2)", 41, x.deed(1, 1, 2));
        due("deed(1, 1, 3)", 10, x.deed(1, 1, 3));
        for (int[] w : new int[][] {{0, 9, 0}, {0, -1, 0}, {0, 40, 0}, {1, 2, 0}, {2, 0, 0}, {-1, 40, 0}, {0, 0, -1},
            {0, 0, 4}, {LEAST, 0, 0}, {GREATEST, 0, 0}, {0, LEAST, 0}, {0, GREATEST, 0}, {0, 0, GREATEST}}) {
            due("deed " + w[0] + " " + w[1] + " " + w[2], NONE, x.deed(w[0], w[1], w[2]));
        }
    }

    private static void about() {
        CHECKS.part("promise 19");
        PocketList x = new PocketList(-3);
        x.device(NONE);
        x.device(0);
        x.put(0, 1, 1);
        x.put(1, 1, 1);
        x.undo(1);
        due("about(0)", 2, x.about(0));
        due("about(1)", 3, x.about(1));
        due("about(2)", 1, x.about(2));
        due("about(3)", NONE, x.about(3));
        x.view(1, 1);
        due("about(3)", 1, x.about(3));
        due("about(4)", 1, x.about(4));
        for (int what : new int[] {-1, 5, LEAST, GREATEST}) {
            due("about(" + what + ")", NONE, x.about(what));
        }
    }

    private static void fullDevice() {
        CHECKS.part("promise 4, a device that has done 40");
        PocketList x = withDevices(2, 0);
        x.put(0, 5, 3);
        x.put(0, 6, 3);
        x.strike(0, 1);
        for (int i = 3; i < 40; i++) {
            yes("count(0, 0, 1), deed " + i, x.count(0, 0, 1));
        }
        due("put", NONE, x.put(0, 1, 1));
        no("count", x.count(0, 0, 1));
        no("buy", x.buy(0, 0, 1));
        no("strike", x.strike(0, 0));
        no("back", x.back(0, 1));
        no("move", x.move(0, 0, NONE));
        no("name", x.name(0, 0, 1));
        due("undo", NONE, x.undo(0));
        due("about(1)", 40, x.about(1));
        due("thing(0, 2)", 40, x.thing(0, COUNT));
        due("deed(0, 39, 1)", 40, x.deed(0, 39, 1));
        yes("view(0, 39)", x.view(0, 39));
        due("meet(1, 0)", 40, x.meet(1, 0));
        yes("the other one can", x.back(1, 1));
        due("put(1, 1, 1)", 41, x.put(1, 1, 1));
    }
}
