import java.util.ArrayList;
import java.util.Comparator;
import java.util.HashSet;
import java.util.List;
import java.util.Set;

/**
 * The document's terms taken word by word, with sets of deeds and no short cut, so that it has
 * little in common with the program that is held against it.
 */
final class Model {
    static final int PUT = 0, COUNT = 1, BUY = 2, STRIKE = 3, BACK = 4, MOVE = 5, NAME = 6, UNDO = 7;

    static final class Deed {
        int device, n, sort, stamp, thing, value, startCount;
        Deed undoes;
        Set<Deed> knows;
    }

    private final boolean strikesWin;
    private final List<List<Deed>> done = new ArrayList<>();
    private final List<Set<Deed>> known = new ArrayList<>();
    /** reckoned.get(d).get(f): what d reckons, for sure, that f knew. */
    private final List<List<Set<Deed>>> reckoned = new ArrayList<>();
    private int viewDevice = -1, viewN = -1;

    Model(int strikesWin) {
        this.strikesWin = strikesWin != 0;
    }

    private boolean is(int d) {
        return d >= 0 && d < done.size();
    }

    int device(int from) {
        if (done.size() == 4 || !(is(from) || (from == -1 && done.isEmpty()))) return -1;
        int fresh = done.size();
        done.add(new ArrayList<>());
        known.add(new HashSet<>());
        List<Set<Deed>> ofAll = new ArrayList<>();
        for (int f = 0; f < 4; f++) ofAll.add(new HashSet<>());
        reckoned.add(ofAll);
        if (from != -1) meet(from, fresh);
        return fresh;
    }

    int meet(int a, int b) {
        if (!is(a) || !is(b) || a == b) return -1;
        Set<Deed> both = new HashSet<>(known.get(a));
        both.addAll(known.get(b));
        for (int d : new int[] {a, b}) known.set(d, new HashSet<>(both));
        for (int f = 0; f < 4; f++) {
            Set<Deed> either = new HashSet<>(reckoned.get(a).get(f));
            either.addAll(reckoned.get(b).get(f));
            if (f == a || f == b) either = both;
            for (int d : new int[] {a, b}) reckoned.get(d).set(f, new HashSet<>(either));
        }
        return both.size();
    }

    private Deed doIt(int d, int sort, int thing, int value, int startCount) {
        Deed deed = new Deed();
        deed.device = d;
        deed.n = done.get(d).size();
        deed.sort = sort;
        deed.thing = sort == PUT ? 40 * d + deed.n : thing;
        deed.value = value;
        deed.startCount = startCount;
        deed.knows = new HashSet<>(known.get(d));
        deed.stamp = 1;
        for (Deed other : deed.knows) deed.stamp = Math.max(deed.stamp, other.stamp + 1);
        done.get(d).add(deed);
        known.get(d).add(deed);
        reckoned.get(d).get(d).addAll(known.get(d));
        return deed;
    }

    private boolean can(int d) {
        return is(d) && done.get(d).size() < 40;
    }

    private boolean canChange(int d, int thing) {
        return can(d) && isThere(known.get(d), thing) && !isStruck(known.get(d), thing);
    }

    int put(int d, int name, int count) {
        if (!can(d) || name < 1 || name > 999 || count < 0 || count > 99) return -1;
        return doIt(d, PUT, -1, name, count).thing;
    }

    boolean count(int d, int thing, int by) {
        if (!canChange(d, thing) || by == 0 || by < -99 || by > 99) return false;
        doIt(d, COUNT, thing, by, 0);
        return true;
    }

    boolean buy(int d, int thing, int many) {
        if (!canChange(d, thing) || many < 1 || many > 99) return false;
        doIt(d, BUY, thing, many, 0);
        return true;
    }

    boolean strike(int d, int thing) {
        if (!canChange(d, thing)) return false;
        doIt(d, STRIKE, thing, 0, 0);
        return true;
    }

    boolean back(int d, int thing) {
        if (!can(d) || !isThere(known.get(d), thing) || !isStruck(known.get(d), thing)) return false;
        doIt(d, BACK, thing, 0, 0);
        return true;
    }

    boolean move(int d, int thing, int behind) {
        if (!canChange(d, thing) || behind == thing) return false;
        if (behind != -1 && !isThere(known.get(d), behind)) return false;
        doIt(d, MOVE, thing, behind, 0);
        return true;
    }

    boolean name(int d, int thing, int name) {
        if (!canChange(d, thing) || name < 1 || name > 999) return false;
        doIt(d, NAME, thing, name, 0);
        return true;
    }

    int undo(int d) {
        if (!can(d)) return -1;
        Set<Deed> undone = undoneIn(known.get(d));
        Deed latest = null;
        for (Deed deed : done.get(d)) {
            if (deed.sort != UNDO && !undone.contains(deed)) latest = deed;
        }
        if (latest == null) return -1;
        doIt(d, UNDO, latest.n, 0, 0).undoes = latest;
        return latest.n;
    }

    boolean view(int d, int n) {
        if (!is(d) || n < -1 || n >= done.get(d).size()) return false;
        viewDevice = d;
        viewN = n;
        return true;
    }

    private Set<Deed> viewed() {
        if (viewDevice == -1) return null;
        if (viewN == -1) return known.get(viewDevice);
        Deed deed = done.get(viewDevice).get(viewN);
        Set<Deed> set = new HashSet<>(deed.knows);
        set.add(deed);
        return set;
    }

    private static Set<Deed> undoneIn(Set<Deed> set) {
        Set<Deed> undone = new HashSet<>();
        for (Deed deed : set) if (deed.sort == UNDO) undone.add(deed.undoes);
        return undone;
    }

    private static boolean isThere(Set<Deed> set, int thing) {
        for (Deed deed : lookedAt(set)) if (deed.sort == PUT && deed.thing == thing) return true;
        return false;
    }

    /** In line; UNDOs have done their work and are left out. */
    private static List<Deed> lookedAt(Set<Deed> set) {
        Set<Deed> undone = undoneIn(set);
        Set<Integer> gone = new HashSet<>();
        for (Deed deed : undone) if (deed.sort == PUT) gone.add(deed.thing);
        List<Deed> looked = new ArrayList<>();
        for (Deed deed : set) {
            if (deed.sort != UNDO && !undone.contains(deed) && !gone.contains(deed.thing)) looked.add(deed);
        }
        looked.sort(Comparator.<Deed>comparingInt(deed -> deed.stamp).thenComparingInt(deed -> deed.device));
        return looked;
    }

    private static List<Deed> of(Set<Deed> set, int thing) {
        List<Deed> its = new ArrayList<>();
        for (Deed deed : lookedAt(set)) if (deed.thing == thing) its.add(deed);
        return its;
    }

    private boolean isStruck(Set<Deed> set, int thing) {
        List<Deed> its = of(set, thing);
        for (Deed strike : its) {
            if (strike.sort != STRIKE) continue;
            boolean holds = true;
            for (Deed other : its) {
                if (other.sort == BACK && other.knows.contains(strike)) holds = false;
                boolean touches = other.sort == COUNT || other.sort == BUY || other.sort == MOVE || other.sort == NAME;
                if (!strikesWin && touches && !strike.knows.contains(other)) holds = false;
            }
            if (holds) return true;
        }
        return false;
    }

    private static List<Integer> line(Set<Deed> set) {
        List<Integer> line = new ArrayList<>();
        for (Deed deed : lookedAt(set)) {
            if (deed.sort == PUT) line.add(deed.thing);
            if (deed.sort == MOVE) {
                line.remove((Integer) deed.thing);
                int other = line.indexOf(deed.value);
                line.add(deed.value == -1 ? 0 : other == -1 ? line.size() : other + 1, deed.thing);
            }
        }
        return line;
    }

    private static int nameOf(Set<Deed> set, int thing) {
        int name = 0;
        for (Deed deed : of(set, thing)) if (deed.sort == PUT || deed.sort == NAME) name = deed.value;
        return name;
    }

    private static int countOf(Set<Deed> set, int thing) {
        int count = 0;
        for (Deed deed : of(set, thing)) count += deed.sort == PUT ? deed.startCount : deed.sort == COUNT ? deed.value : 0;
        return count;
    }

    private static int boughtOf(Set<Deed> set, int thing) {
        int bought = 0;
        for (Deed deed : of(set, thing)) bought += deed.sort == BUY ? deed.value : 0;
        return bought;
    }

    /** Each row's things, the keeper first. */
    private List<List<Integer>> rowsOf(Set<Deed> set) {
        List<List<Integer>> rows = new ArrayList<>();
        for (Deed deed : lookedAt(set)) {
            if (deed.sort != PUT || isStruck(set, deed.thing)) continue;
            List<Integer> mine = null;
            for (List<Integer> row : rows) if (nameOf(set, row.get(0)) == nameOf(set, deed.thing)) mine = row;
            if (mine == null) {
                mine = new ArrayList<>();
                rows.add(mine);
            }
            mine.add(deed.thing);
        }
        List<Integer> line = line(set);
        rows.sort(Comparator.comparingInt(row -> line.indexOf(row.get(0))));
        return rows;
    }

    private static boolean isDouble(Set<Deed> set, List<Integer> row) {
        List<Deed> buys = new ArrayList<>();
        for (Deed deed : lookedAt(set)) if (deed.sort == BUY && row.contains(deed.thing)) buys.add(deed);
        for (Deed one : buys) {
            for (Deed two : buys) {
                if (one != two && !one.knows.contains(two) && !two.knows.contains(one)) return true;
            }
        }
        return false;
    }

    int rows() {
        return viewed() == null ? -1 : rowsOf(viewed()).size();
    }

    int row(int i, int what) {
        Set<Deed> set = viewed();
        if (set == null) return -1;
        List<List<Integer>> rows = rowsOf(set);
        if (i < 0 || i >= rows.size()) return -1;
        List<Integer> row = rows.get(i);
        int count = 0, bought = 0;
        for (int thing : row) {
            count += countOf(set, thing);
            bought += boughtOf(set, thing);
        }
        count = Math.max(0, count);
        if (what == 0) return row.get(0);
        if (what == 1) return nameOf(set, row.get(0));
        if (what == 2) return count;
        if (what == 3) return bought;
        if (what == 4) return Math.max(0, count - bought);
        if (what == 5) return row.size();
        if (what == 6) return isDouble(set, row) ? 1 : 0;
        return -1;
    }

    int thing(int thing, int what) {
        Set<Deed> set = viewed();
        if (set == null || !isThere(set, thing)) return -10000;
        if (what == 0) return isStruck(set, thing) ? 1 : 0;
        if (what == 1) return nameOf(set, thing);
        if (what == 2) return countOf(set, thing);
        if (what == 3) return boughtOf(set, thing);
        if (what == 4) return line(set).indexOf(thing);
        return -10000;
    }

    private static int by(Set<Deed> set, int e) {
        int all = 0;
        for (Deed deed : set) if (deed.device == e) all++;
        return all;
    }

    int knows(int d, int e, int f, int what) {
        if (!is(d) || !is(e)) return -1;
        if (what == 0) return by(known.get(d), e);
        return what == 1 && is(f) ? by(reckoned.get(d).get(f), e) : -1;
    }

    int keeps(int d) {
        if (!is(d)) return -1;
        int kept = 0;
        for (Deed deed : known.get(d)) {
            boolean seen = true;
            for (int f = 0; f < done.size(); f++) seen &= reckoned.get(d).get(f).contains(deed);
            if (!seen) kept++;
        }
        return kept;
    }

    int deed(int d, int n, int what) {
        if (!is(d) || n < 0 || n >= done.get(d).size()) return -1;
        Deed deed = done.get(d).get(n);
        if (what == 0) return deed.sort;
        if (what == 1) return deed.stamp;
        if (what == 2) return deed.thing;
        if (what == 3) return deed.knows.size();
        return -1;
    }

    int about(int what) {
        int all = 0;
        for (List<Deed> its : done) all += its.size();
        int[] told = {done.size(), all, strikesWin ? 1 : 0, viewDevice, viewN};
        return what >= 0 && what < told.length ? told[what] : -1;
    }
}
