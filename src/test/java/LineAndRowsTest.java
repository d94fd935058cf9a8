/** Terms II: THE LINE, what is STRUCK, and ROWS, each sentence with its boundary cases by itself. */
public final class LineAndRowsTest {
    private static final int NONE = PocketList.NONE;
    private static final int GONE = -10000;
    private static final int KEEPER = 0, NAME = 1, COUNT = 2, BOUGHT = 3, LEFT = 4, THINGS = 5, DOUBLE = 6;
    private static final int STRUCK = 0, PLACE = 4;

    private static final Checks CHECKS = new Checks();

    public static void main(String[] args) {
        putsGoToTheEnd();
        moveToEachPlace();
        moveOfTheOnlyOne();
        moveBehindStruck();
        moveBehindOneThatIsGone();
        movesAreGoneThroughInLine();
        strikeThatABackKnows();
        strikeThatNoBackKnows();
        backUndone();
        strikeKnowsAllChanges();
        moveBehindItIsNoChange();
        oneOfTwoStrikesKnowsAll();
        backIsNoChange();
        lastName();
        countTogether();
        rowsOfNames();
        keeperIsTheFirstPut();
        rowsInTheOrderOfKeepers();
        rowCountAtLeastNothing();
        leftAtLeastNothing();
        struckOnesAreInNoRow();
        oneBuyIsNotDouble();
        doubleIfNeitherKnows();
        doubleAcrossThings();
        doubleEndsWithItsBuys();
        CHECKS.end();
    }

    private static void due(String call, long want, long got) {
        CHECKS.due(call, want, got);
    }

    private static void yes(String call, boolean got) {
        CHECKS.yes(call, got);
    }

    /** So many devices that know the THINGS 0, 1, .. with the names 1, 2, .. , 10 of each; THE VIEW is that of 0. */
    private static PocketList house(int devices, int things, int strikesWin) {
        PocketList x = new PocketList(strikesWin);
        x.device(NONE);
        for (int thing = 0; thing < things; thing++) {
            x.put(0, thing + 1, 10);
        }
        for (int d = 1; d < devices; d++) {
            x.device(0);
        }
        x.view(0, NONE);
        return x;
    }

    private static void dueLine(String after, PocketList x, int... things) {
        for (int place = 0; place < things.length; place++) {
            due(after + ": the place of " + things[place], place, x.thing(things[place], PLACE));
        }
    }

    private static void putsGoToTheEnd() {
        CHECKS.part("a PUT brings its THING to the end");
        PocketList x = house(1, 2, 0);
        dueLine("two PUTS", x, 0, 1);
        x.move(0, 0, 1);
        x.put(0, 9, 1);
        dueLine("a PUT after a MOVE to the end", x, 1, 0, 3);
        x.strike(0, 3);
        x.put(0, 9, 1);
        dueLine("a PUT behind a STRUCK one", x, 1, 0, 3, 5);
    }

    private static void moveToEachPlace() {
        CHECKS.part("a MOVE takes one out and sets it behind the other");
        int things = 4;
        for (int thing = 0; thing < things; thing++) {
            for (int behind = NONE; behind < things; behind++) {
                if (behind == thing) {
                    continue;
                }
                PocketList x = house(1, things, 0);
                yes("move(0, " + thing + ", " + behind + ")", x.move(0, thing, behind));
                dueLine("move " + thing + " behind " + behind, x, moved(things, thing, behind));
            }
        }
    }

    private static int[] moved(int things, int thing, int behind) {
        int[] line = new int[things];
        int at = 0;
        if (behind == NONE) {
            line[at++] = thing;
        }
        for (int other = 0; other < things; other++) {
            if (other != thing) {
                line[at++] = other;
            }
            if (other == behind) {
                line[at++] = thing;
            }
        }
        return line;
    }

    private static void moveOfTheOnlyOne() {
        CHECKS.part("a MOVE of the only THING");
        PocketList x = house(1, 1, 0);
        yes("move(0, 0, NONE)", x.move(0, 0, NONE));
        due("thing(0, 4)", 0, x.thing(0, PLACE));
        CHECKS.no("move(0, 0, 0), the same", x.move(0, 0, 0));
        due("rows()", 1, x.rows());
    }

    private static void moveBehindStruck() {
        CHECKS.part("a MOVE behind another THING, STRUCK or not");
        PocketList x = house(1, 3, 0);
        x.strike(0, 2);
        yes("move(0, 0, 2)", x.move(0, 0, 2));
        dueLine("behind a STRUCK one", x, 1, 2, 0);
        due("thing(2, 0), it stays STRUCK", 1, x.thing(2, STRUCK));
        due("rows()", 2, x.rows());
        due("row(1, 0)", 0, x.row(1, KEEPER));
    }

    private static void moveBehindOneThatIsGone() {
        CHECKS.part("a MOVE: at the end, if that one isn't there");
        PocketList x = house(2, 2, 0);
        x.put(1, 8, 1);
        x.meet(0, 1);
        x.put(0, 9, 1);
        yes("move(0, 0, 40)", x.move(0, 0, 40));
        dueLine("40 is there", x, 1, 40, 0, 2);
        x.undo(1);
        dueLine("0 doesn't know yet that it is gone", x, 1, 40, 0, 2);
        x.meet(0, 1);
        dueLine("40 is gone", x, 1, 2, 0);
        due("thing(40, 4)", GONE, x.thing(40, PLACE));
        x.put(0, 7, 1);
        dueLine("a later PUT", x, 1, 2, 0, 4);
        x.view(0, 3);
        dueLine("as it had done the MOVE", x, 1, 40, 0, 2);
        CHECKS.no("move(0, 1, 40), it is gone", x.move(0, 1, 40));
    }

    private static void movesAreGoneThroughInLine() {
        CHECKS.part("THE LINE is gone through as DEEDS stand in line");
        PocketList x = house(2, 3, 0);
        x.count(1, 0, 1);
        x.move(1, 2, NONE);
        x.move(0, 1, NONE);
        dueLine("0's MOVE alone", x, 1, 0, 2);
        x.meet(0, 1);
        dueLine("1's MOVE has the greater STAMP", x, 2, 1, 0);
        x.move(0, 0, 2);
        x.move(1, 1, 2);
        x.meet(0, 1);
        dueLine("like STAMPS behind the same one", x, 2, 1, 0);
    }

    private static void strikeThatABackKnows() {
        CHECKS.part("STRUCK: a STRIKE that no BACK KNOWS");
        for (int wins = 0; wins < 2; wins++) {
            PocketList x = house(3, 1, wins);
            x.strike(1, 0);
            due("thing(0, 0), 0 doesn't know of it", 0, x.thing(0, STRUCK));
            x.meet(0, 1);
            due("thing(0, 0)", 1, x.thing(0, STRUCK));
            yes("back(0, 0), of another's STRIKE", x.back(0, 0));
            due("thing(0, 0)", 0, x.thing(0, STRUCK));
            CHECKS.no("back(0, 0), STRUCK no more", x.back(0, 0));
            yes("strike(0, 0) anew", x.strike(0, 0));
            due("thing(0, 0), the BACK KNOWS only the first", 1, x.thing(0, STRUCK));
            yes("back(0, 0) anew", x.back(0, 0));
            due("thing(0, 0)", 0, x.thing(0, STRUCK));
        }
    }

    private static void strikeThatNoBackKnows() {
        CHECKS.part("STRUCK: each STRIKE by itself");
        for (int wins = 0; wins < 2; wins++) {
            PocketList x = house(3, 1, wins);
            for (int d = 0; d < 3; d++) {
                x.strike(d, 0);
            }
            x.meet(0, 1);
            yes("back(0, 0), it KNOWS two of three", x.back(0, 0));
            due("thing(0, 0)", 0, x.thing(0, STRUCK));
            x.meet(0, 2);
            due("thing(0, 0), the third is left", 1, x.thing(0, STRUCK));
            yes("back(2, 0)", x.back(2, 0));
            x.meet(0, 2);
            due("thing(0, 0), two BACKS KNOW all of them", 0, x.thing(0, STRUCK));
        }
    }

    private static void backUndone() {
        CHECKS.part("STRUCK: a BACK that is UNDONE");
        PocketList x = house(1, 1, 0);
        x.strike(0, 0);
        x.back(0, 0);
        x.undo(0);
        due("thing(0, 0)", 1, x.thing(0, STRUCK));
        due("undo(0), the STRIKE", 1, x.undo(0));
        due("thing(0, 0)", 0, x.thing(0, STRUCK));
        CHECKS.no("back(0, 0)", x.back(0, 0));
    }

    private static boolean change(PocketList x, int sort, int d, int thing) {
        switch (sort) {
            case 0: return x.count(d, thing, 1);
            case 1: return x.buy(d, thing, 1);
            case 2: return x.move(d, thing, NONE);
            default: return x.name(d, thing, 9);
        }
    }

    private static void strikeKnowsAllChanges() {
        for (int sort = 0; sort < 4; sort++) {
            CHECKS.part("STRUCK, if strikes don't win: KNOWS all changes, sort " + sort);
            PocketList x = house(2, 2, 0);
            yes("a change before it", change(x, sort, 0, 0));
            yes("strike(0, 0)", x.strike(0, 0));
            due("thing(0, 0), it KNOWS that", 1, x.thing(0, STRUCK));
            yes("a change of another THING", change(x, sort, 1, 1));
            x.meet(0, 1);
            due("thing(0, 0)", 1, x.thing(0, STRUCK));
            CHECKS.no("a change of a STRUCK one", change(x, sort, 1, 0));
            x = house(2, 2, 0);
            x.strike(0, 0);
            yes("a change apart", change(x, sort, 1, 0));
            x.meet(0, 1);
            due("thing(0, 0), it doesn't KNOW that", 0, x.thing(0, STRUCK));
            CHECKS.no("back(0, 0), it isn't STRUCK", x.back(0, 0));
            yes("strike(0, 0), now it KNOWS", x.strike(0, 0));
            due("thing(0, 0)", 1, x.thing(0, STRUCK));
            strikesThatWin(sort);
        }
    }

    private static void strikesThatWin(int sort) {
        PocketList x = house(2, 2, 1);
        x.strike(0, 0);
        yes("a change apart, strikes win", change(x, sort, 1, 0));
        x.meet(0, 1);
        due("thing(0, 0), strikes win", 1, x.thing(0, STRUCK));
        due("undo(1)", 0, x.undo(1));
        x.meet(0, 1);
        due("thing(0, 0), strikes win", 1, x.thing(0, STRUCK));
    }

    private static void moveBehindItIsNoChange() {
        CHECKS.part("STRUCK: MOVES of it, not behind it");
        PocketList x = house(2, 2, 0);
        x.strike(0, 0);
        yes("move(1, 1, 0)", x.move(1, 1, 0));
        x.meet(0, 1);
        due("thing(0, 0)", 1, x.thing(0, STRUCK));
    }

    private static void oneOfTwoStrikesKnowsAll() {
        CHECKS.part("STRUCK: there is a STRIKE that KNOWS all");
        PocketList x = house(2, 1, 0);
        x.strike(0, 0);
        x.count(1, 0, 1);
        x.strike(1, 0);
        x.meet(0, 1);
        due("thing(0, 0), 1's KNOWS all", 1, x.thing(0, STRUCK));
        due("undo(1), 1's is UNDONE", 1, x.undo(1));
        x.meet(0, 1);
        due("thing(0, 0), 0's doesn't", 0, x.thing(0, STRUCK));
        due("undo(1), the COUNT is UNDONE", 0, x.undo(1));
        x.meet(0, 1);
        due("thing(0, 0), now 0's does", 1, x.thing(0, STRUCK));
    }

    private static void backIsNoChange() {
        CHECKS.part("STRUCK: a BACK that the STRIKE doesn't KNOW");
        PocketList x = house(2, 1, 0);
        x.strike(0, 0);
        x.back(0, 0);
        x.strike(1, 0);
        x.meet(0, 1);
        due("thing(0, 0)", 1, x.thing(0, STRUCK));
    }

    private static void lastName() {
        CHECKS.part("its NAME: the last NAME in line, else of its PUT");
        PocketList x = house(2, 1, 0);
        due("thing(0, 1), of its PUT", 1, x.thing(0, NAME));
        x.name(0, 0, 20);
        x.name(0, 0, 30);
        due("thing(0, 1), the last", 30, x.thing(0, NAME));
        x.name(1, 0, 40);
        x.meet(0, 1);
        due("thing(0, 1), the greater STAMP", 30, x.thing(0, NAME));
        x.undo(0);
        due("thing(0, 1), of like STAMPS by devices", 40, x.thing(0, NAME));
        x.undo(1);
        x.meet(0, 1);
        due("thing(0, 1), the one that is left", 20, x.thing(0, NAME));
        x.undo(0);
        due("thing(0, 1), of its PUT again", 1, x.thing(0, NAME));
    }

    private static void countTogether() {
        CHECKS.part("its COUNT: all together");
        PocketList x = house(2, 1, 0);
        x.count(0, 0, -10);
        due("thing(0, 2)", 0, x.thing(0, COUNT));
        x.count(1, 0, -1);
        x.meet(0, 1);
        due("thing(0, 2), as it is", -1, x.thing(0, COUNT));
        x.count(1, 0, 2);
        x.meet(0, 1);
        due("thing(0, 2), with no stop at 0", 1, x.thing(0, COUNT));
        x.buy(0, 0, 5);
        due("thing(0, 2), a BUY doesn't change it", 1, x.thing(0, COUNT));
    }

    private static void rowsOfNames() {
        CHECKS.part("ROWS: all of one NAME are one ROW");
        PocketList x = house(2, 3, 0);
        due("rows()", 3, x.rows());
        due("row(0, 5)", 1, x.row(0, THINGS));
        x.name(0, 2, 1);
        due("rows(), two have one NAME", 2, x.rows());
        due("row(0, 5)", 2, x.row(0, THINGS));
        x.name(0, 1, 1);
        due("rows(), all have one NAME", 1, x.rows());
        due("row(0, 5)", 3, x.row(0, THINGS));
        due("row(0, 2)", 30, x.row(0, COUNT));
        x.put(1, 1, 7);
        due("row(0, 5), 0 doesn't know of it", 3, x.row(0, THINGS));
        x.meet(0, 1);
        due("row(0, 5)", 4, x.row(0, THINGS));
        due("row(0, 2)", 37, x.row(0, COUNT));
        x.name(0, 0, 4);
        due("rows(), one has gone", 2, x.rows());
        due("row(0, 5)", 1, x.row(0, THINGS));
        due("row(1, 5)", 3, x.row(1, THINGS));
    }

    private static void keeperIsTheFirstPut() {
        CHECKS.part("KEEPER: the one whose PUT is the first in line");
        PocketList x = house(2, 0, 0);
        x.put(1, 5, 1);
        x.put(0, 9, 1);
        x.put(0, 5, 1);
        x.meet(0, 1);
        due("row(0, 0), 9's", 0, x.row(0, KEEPER));
        due("row(1, 0), the lesser STAMP", 40, x.row(1, KEEPER));
        x.move(0, 1, NONE);
        due("row(1, 0), whatever the MOVE", 40, x.row(1, KEEPER));
        due("row(0, 0)", 0, x.row(0, KEEPER));
        x.name(0, 0, 5);
        due("row(0, 0), named anew, its PUT is the first", 0, x.row(0, KEEPER));
        due("rows()", 1, x.rows());
        x.strike(0, 0);
        due("row(0, 0), the first is STRUCK", 40, x.row(0, KEEPER));
        x.name(0, 40, 8);
        due("row(0, 0), STRUCK ones keep nothing", 1, x.row(0, KEEPER));
        x.back(0, 0);
        due("row(0, 0), it is STRUCK no more", 0, keeperOf(x, 5));
        due("keeper of 8", 40, keeperOf(x, 8));
    }

    private static int keeperOf(PocketList x, int name) {
        for (int i = 0; i < x.rows(); i++) {
            if (x.row(i, NAME) == name) {
                return x.row(i, KEEPER);
            }
        }
        return NONE;
    }

    private static void rowsInTheOrderOfKeepers() {
        CHECKS.part("ROWS are in the order of KEEPERS in THE LINE");
        PocketList x = house(1, 3, 0);
        x.put(0, 1, 5);
        x.move(0, 3, NONE);
        dueLine("the later of the NAME is at the front", x, 3, 0, 1, 2);
        x.move(0, 0, 2);
        dueLine("the KEEPER is at the end", x, 3, 1, 2, 0);
        int[] keepers = {1, 2, 0};
        for (int i = 0; i < keepers.length; i++) {
            due("row(" + i + ", 0)", keepers[i], x.row(i, KEEPER));
        }
        due("row(2, 5)", 2, x.row(2, THINGS));
        x.strike(0, 0);
        due("row(0, 0), the other one keeps now", 3, x.row(0, KEEPER));
        due("row(2, 0)", 2, x.row(2, KEEPER));
    }

    private static void rowCountAtLeastNothing() {
        CHECKS.part("a ROW's COUNT: together, 0 at least");
        int[] by = {-9, -10, -11};
        int[] want = {1, 0, 0};
        for (int i = 0; i < by.length; i++) {
            PocketList x = house(1, 1, 0);
            x.count(0, 0, by[i]);
            due("thing(0, 2)", 10 + by[i], x.thing(0, COUNT));
            due("row(0, 2) of " + (10 + by[i]), want[i], x.row(0, COUNT));
            due("row(0, 4) of " + (10 + by[i]), want[i], x.row(0, LEFT));
        }
        PocketList x = house(1, 2, 0);
        x.name(0, 1, 1);
        x.count(0, 0, -15);
        due("row(0, 2), a THING below 0 counts as it is", 5, x.row(0, COUNT));
        x.count(0, 0, -5);
        due("row(0, 2)", 0, x.row(0, COUNT));
        x.count(0, 1, -1);
        due("row(0, 2), 0 at least", 0, x.row(0, COUNT));
        x.count(0, 1, 2);
        due("row(0, 2)", 1, x.row(0, COUNT));
    }

    private static void leftAtLeastNothing() {
        CHECKS.part("LEFT: COUNT less BOUGHT, 0 at least");
        int[] many = {1, 9, 10, 11, 99};
        int[] want = {9, 1, 0, 0, 0};
        for (int i = 0; i < many.length; i++) {
            PocketList x = house(1, 1, 0);
            due("row(0, 4), nothing bought", 10, x.row(0, LEFT));
            x.buy(0, 0, many[i]);
            due("row(0, 3)", many[i], x.row(0, BOUGHT));
            due("row(0, 4)", want[i], x.row(0, LEFT));
            due("row(0, 2), a BUY doesn't change it", 10, x.row(0, COUNT));
        }
        PocketList x = house(1, 2, 0);
        x.name(0, 1, 1);
        x.buy(0, 0, 15);
        due("row(0, 4), more of one than its own COUNT", 5, x.row(0, LEFT));
        x.count(0, 0, -50);
        due("row(0, 4), no COUNT", 0, x.row(0, LEFT));
        due("row(0, 3)", 15, x.row(0, BOUGHT));
    }

    private static void struckOnesAreInNoRow() {
        CHECKS.part("ROWS: of THINGS that aren't STRUCK");
        PocketList x = house(2, 2, 1);
        x.name(0, 1, 1);
        x.buy(0, 1, 4);
        x.meet(0, 1);
        x.strike(0, 1);
        int[] row = {0, 1, 10, 0, 10, 1, 0};
        for (int what = 0; what < row.length; what++) {
            due("row(0, " + what + ")", row[what], x.row(0, what));
        }
        due("thing(1, 3), it tells what it is still", 4, x.thing(1, BOUGHT));
        due("thing(1, 4)", 1, x.thing(1, PLACE));
        x.strike(0, 0);
        due("rows(), all are STRUCK", 0, x.rows());
        due("row(0, 0)", NONE, x.row(0, KEEPER));
        x.back(0, 1);
        due("rows()", 1, x.rows());
        due("row(0, 0)", 1, x.row(0, KEEPER));
        due("row(0, 3)", 4, x.row(0, BOUGHT));
    }

    private static void oneBuyIsNotDouble() {
        CHECKS.part("DOUBLE: two BUYS");
        PocketList x = house(3, 1, 0);
        due("row(0, 6), no BUY", 0, x.row(0, DOUBLE));
        x.buy(0, 0, 1);
        due("row(0, 6), one BUY", 0, x.row(0, DOUBLE));
        x.buy(0, 0, 1);
        due("row(0, 6), the second KNOWS the first", 0, x.row(0, DOUBLE));
        x.meet(0, 1);
        x.buy(1, 0, 1);
        x.meet(1, 2);
        x.buy(2, 0, 1);
        x.meet(0, 2);
        due("row(0, 6), each KNOWS all before", 0, x.row(0, DOUBLE));
        due("row(0, 3)", 4, x.row(0, BOUGHT));
    }

    private static void doubleIfNeitherKnows() {
        CHECKS.part("DOUBLE: of which neither KNOWS the other");
        for (int one = 0; one < 3; one++) {
            for (int other = 0; other < 3; other++) {
                if (one == other) {
                    continue;
                }
                PocketList x = house(3, 2, 0);
                x.buy(one, 0, 1);
                x.buy(other, 0, 1);
                x.meet(0, 1);
                x.meet(0, 2);
                due("row(0, 6), " + one + " and " + other + " apart", 1, x.row(0, DOUBLE));
                due("row(1, 6), the other ROW", 0, x.row(1, DOUBLE));
                x.meet(0, 1);
                x.meet(0, 2);
                x.buy(one, 0, 1);
                x.meet(0, one == 0 ? other : one);
                due("row(0, 6), one that KNOWS both doesn't mend it", 1, x.row(0, DOUBLE));
            }
        }
        PocketList x = house(2, 1, 0);
        x.buy(0, 0, 1);
        x.count(1, 0, 1);
        x.count(1, 0, 1);
        x.buy(1, 0, 1);
        due("row(0, 6), 0 doesn't know of the other", 0, x.row(0, DOUBLE));
        x.meet(0, 1);
        due("row(0, 6), apart with other STAMPS", 1, x.row(0, DOUBLE));
    }

    private static void doubleAcrossThings() {
        CHECKS.part("DOUBLE: BUYS of its THINGS");
        PocketList x = house(2, 2, 1);
        x.buy(0, 0, 1);
        x.buy(1, 1, 1);
        x.meet(0, 1);
        due("row(0, 6), of another ROW", 0, x.row(0, DOUBLE));
        x.name(0, 1, 1);
        due("row(0, 6), one ROW now", 1, x.row(0, DOUBLE));
        x.strike(0, 1);
        due("row(0, 6), one THING is STRUCK", 0, x.row(0, DOUBLE));
        x.back(0, 1);
        due("row(0, 6), STRUCK no more", 1, x.row(0, DOUBLE));
        x.name(0, 0, 5);
        due("row(0, 6), two ROWS again", 0, x.row(0, DOUBLE));
        due("row(1, 6)", 0, x.row(1, DOUBLE));
    }

    private static void doubleEndsWithItsBuys() {
        CHECKS.part("DOUBLE: two BUYS that are there");
        PocketList x = house(2, 1, 0);
        x.buy(0, 0, 1);
        x.buy(1, 0, 1);
        x.meet(0, 1);
        due("row(0, 6)", 1, x.row(0, DOUBLE));
        x.undo(1);
        due("row(0, 6), 0 doesn't know of the UNDO", 1, x.row(0, DOUBLE));
        x.meet(0, 1);
        due("row(0, 6), one is UNDONE", 0, x.row(0, DOUBLE));
        due("row(0, 3)", 1, x.row(0, BOUGHT));
        x.view(0, 1);
        due("row(0, 6), as of its BUY", 0, x.row(0, DOUBLE));
    }
}
