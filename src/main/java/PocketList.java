import java.util.Arrays;

/** A household's list in many pockets; the document's numbered promises say what each call answers. */
public final class PocketList {
    public static final int NONE = -1;

    private static final int NOT_THERE = -10000;
    private static final int DEVICES = 4;
    private static final int DEEDS_EACH = 40;
    private static final int DEEDS_ALL = DEVICES * DEEDS_EACH;
    private static final int LAST_NAME = 999;
    private static final int MOST = 99;

    private static final int PUT = 0;
    private static final int COUNT = 1;
    private static final int BUY = 2;
    private static final int STRIKE = 3;
    private static final int BACK = 4;
    private static final int MOVE = 5;
    private static final int NAME = 6;
    private static final int UNDO = 7;

    private final boolean strikesWin;
    private final Device[] devices = new Device[DEVICES];
    private int deviceCount = 0;
    private final Log log = new Log();
    private final Picture picture;
    private int viewDevice = NONE;
    private int viewN = NONE;

    public PocketList(int strikesWin) {
        this.strikesWin = strikesWin != 0;
        this.picture = new Picture(this.strikesWin);
    }

    public int device(int from) {
        Device source = findDevice(from);
        boolean isFirst = from == NONE && deviceCount == 0;
        if (deviceCount >= DEVICES || (source == null && !isFirst)) {
            return NONE;
        }
        Device fresh = new Device(deviceCount);
        devices[deviceCount] = fresh;
        deviceCount++;
        if (source != null) {
            source.meetWith(fresh);
        }
        return fresh.number;
    }

    public int meet(int a, int b) {
        Device one = findDevice(a);
        Device other = findDevice(b);
        if (one == null || other == null || a == b) {
            return NONE;
        }
        one.meetWith(other);
        return sumOf(one.known());
    }

    public int put(int d, int name, int count) {
        Device device = findDoer(d);
        if (device == null || !isName(name) || count < 0 || count > MOST) {
            return NONE;
        }
        int thing = numberOf(d, device.done());
        perform(device, PUT, thing, count, name);
        return thing;
    }

    public boolean count(int d, int thing, int by) {
        if (by == 0 || by < -MOST || by > MOST) {
            return false;
        }
        return performOn(d, COUNT, thing, by, NONE);
    }

    public boolean buy(int d, int thing, int many) {
        if (many < 1 || many > MOST) {
            return false;
        }
        return performOn(d, BUY, thing, many, NONE);
    }

    public boolean strike(int d, int thing) {
        return performOn(d, STRIKE, thing, NONE, NONE);
    }

    public boolean back(int d, int thing) {
        return performOn(d, BACK, thing, NONE, NONE);
    }

    public boolean move(int d, int thing, int behind) {
        Device device = findDoer(d);
        if (device == null || thing == behind) {
            return false;
        }
        picture.draw(log, device.known());
        if (behind != NONE && picture.find(behind) == null) {
            return false;
        }
        return performOn(d, MOVE, thing, behind, NONE);
    }

    public boolean name(int d, int thing, int name) {
        if (!isName(name)) {
            return false;
        }
        return performOn(d, NAME, thing, NONE, name);
    }

    public int undo(int d) {
        Device device = findDoer(d);
        if (device == null) {
            return NONE;
        }
        int n = log.latestToUndo(d, device.done());
        if (n != NONE) {
            perform(device, UNDO, n, NONE, NONE);
        }
        return n;
    }

    public boolean view(int d, int n) {
        if (findDevice(d) == null || (n != NONE && log.find(d, n) == null)) {
            return false;
        }
        viewDevice = d;
        viewN = n;
        return true;
    }

    public int rows() {
        return drawView() ? picture.rowCount : NONE;
    }

    public int row(int i, int what) {
        if (!drawView() || i < 0 || i >= picture.rowCount) {
            return NONE;
        }
        Row row = picture.rows[i];
        return row == null ? NONE : row.tell(what);
    }

    public int thing(int thing, int what) {
        if (!drawView()) {
            return NOT_THERE;
        }
        Thing found = picture.find(thing);
        return found == null ? NOT_THERE : found.tell(what);
    }

    public int knows(int d, int e, int f, int what) {
        Device device = findDevice(d);
        if (device == null || findDevice(e) == null) {
            return NONE;
        }
        if (what == 0) {
            return device.known()[e];
        }
        if (what == 1 && findDevice(f) != null) {
            return device.reckons[f][e];
        }
        return NONE;
    }

    public int keeps(int d) {
        Device device = findDevice(d);
        return device == null ? NONE : device.unseenAmong(deviceCount);
    }

    public int deed(int d, int n, int what) {
        Deed deed = log.find(d, n);
        return deed == null ? NONE : deed.tell(what);
    }

    public int about(int what) {
        switch (what) {
            case 0: return deviceCount;
            case 1: return log.size;
            case 2: return asInt(strikesWin);
            case 3: return viewDevice;
            case 4: return viewN;
            default: return NONE;
        }
    }

    private Device findDevice(int d) {
        return d >= 0 && d < deviceCount ? devices[d] : null;
    }

    /** The device, if it can still do a DEED; else null. */
    private Device findDoer(int d) {
        Device device = findDevice(d);
        return device != null && device.done() < DEEDS_EACH ? device : null;
    }

    /** Only a BACK is for a THING that is STRUCK, all others are for one that isn't. */
    private boolean performOn(int d, int sort, int thing, int amount, int name) {
        Device device = findDoer(d);
        if (device == null) {
            return false;
        }
        picture.draw(log, device.known());
        Thing found = picture.find(thing);
        if (found == null || found.isStruck != (sort == BACK)) {
            return false;
        }
        perform(device, sort, thing, amount, name);
        return true;
    }

    private void perform(Device device, int sort, int thing, int amount, int name) {
        int stamp = log.stampAfter(device.known());
        device.noteOwnDeed();
        log.add(new Deed(device.number, sort, stamp, thing, amount, name, device.known().clone()));
    }

    /** Lets the picture show THE VIEW; false without one. */
    private boolean drawView() {
        Device device = findDevice(viewDevice);
        if (device == null) {
            return false;
        }
        Deed deed = log.find(viewDevice, viewN);
        picture.draw(log, deed == null ? device.known() : deed.knew);
        return true;
    }

    private static boolean isName(int name) {
        return name >= 1 && name <= LAST_NAME;
    }

    /** The number of a DEED among all; that of a PUT is its THING's number, too. */
    private static int numberOf(int device, int n) {
        return DEEDS_EACH * device + n;
    }

    private static int asInt(boolean is) {
        return is ? 1 : 0;
    }

    private static int sumOf(int[] numbers) {
        int sum = 0;
        for (int number : numbers) {
            sum += number;
        }
        return sum;
    }

    /**
     * A set of DEEDS that a device knows always holds the first ones of each device, so it is
     * told by how many of each: here for each device, as this one reckons, what that one knew.
     */
    private static final class Device {
        final int number;
        final int[][] reckons = new int[DEVICES][DEVICES];

        Device(int number) {
            this.number = number;
        }

        /** What it reckons of itself is what it knows. */
        int[] known() {
            return reckons[number];
        }

        int done() {
            return reckons[number][number];
        }

        void noteOwnDeed() {
            reckons[number][number]++;
        }

        void meetWith(Device other) {
            for (int f = 0; f < DEVICES; f++) {
                raise(reckons[f], other.reckons[f]);
            }
            raise(known(), other.known());
            System.arraycopy(known(), 0, reckons[other.number], 0, DEVICES);
            for (int f = 0; f < DEVICES; f++) {
                System.arraycopy(reckons[f], 0, other.reckons[f], 0, DEVICES);
            }
        }

        /** How many of the DEEDS it knows some device, as it reckons, doesn't know. */
        int unseenAmong(int devices) {
            int unseen = 0;
            for (int e = 0; e < DEVICES; e++) {
                int seen = known()[e];
                for (int f = 0; f < devices && f < DEVICES; f++) {
                    seen = Math.min(seen, reckons[f][e]);
                }
                unseen += known()[e] - seen;
            }
            return unseen;
        }

        private static void raise(int[] mine, int[] others) {
            for (int e = 0; e < DEVICES; e++) {
                mine[e] = Math.max(mine[e], others[e]);
            }
        }
    }

    /** A DEED; nothing of it changes once it is done. */
    private static final class Deed {
        final int device;
        final int n;
        final int sort;
        final int stamp;
        /** Of an UNDO: the n of the DEED that is UNDONE. */
        final int thing;
        /** PUT, COUNT, BUY: how many; MOVE: the THING it goes behind, or NONE. */
        final int amount;
        /** PUT, NAME. */
        final int name;
        /** What its device knew as it had done it: all that it KNOWS, and itself. */
        final int[] knew;

        Deed(int device, int sort, int stamp, int thing, int amount, int name, int[] knew) {
            this.device = device;
            this.n = knew[device] - 1;
            this.sort = sort;
            this.stamp = stamp;
            this.thing = thing;
            this.amount = amount;
            this.name = name;
            this.knew = knew;
        }

        boolean standsBefore(Deed other) {
            return stamp != other.stamp ? stamp < other.stamp : device < other.device;
        }

        /** Whether it KNOWS, of each device, so many of the first DEEDS. */
        boolean knowsAll(int[] counts) {
            for (int e = 0; e < DEVICES; e++) {
                if (knew[e] < counts[e]) {
                    return false;
                }
            }
            return true;
        }

        /** Lets the counts reach as far as this DEED. */
        void includeIn(int[] counts) {
            counts[device] = Math.max(counts[device], n + 1);
        }

        int tell(int what) {
            switch (what) {
                case 0: return sort;
                case 1: return stamp;
                case 2: return thing;
                case 3: return sumOf(knew) - 1;
                default: return NONE;
            }
        }
    }

    /** All DEEDS of all devices. */
    private static final class Log {
        final Deed[] byNumber = new Deed[DEEDS_ALL];
        /** As they stand in line. */
        final Deed[] line = new Deed[DEEDS_ALL];
        int size = 0;

        /** The DEED, or null. */
        Deed find(int device, int n) {
            if (device < 0 || device >= DEVICES || n < 0 || n >= DEEDS_EACH) {
                return null;
            }
            return byNumber[numberOf(device, n)];
        }

        void add(Deed deed) {
            if (size >= DEEDS_ALL) {
                return;
            }
            int at = size;
            while (at > 0 && deed.standsBefore(line[at - 1])) {
                line[at] = line[at - 1];
                at--;
            }
            line[at] = deed;
            size++;
            byNumber[numberOf(deed.device, deed.n)] = deed;
        }

        /** A device's STAMPS grow, so its last known DEED has the greatest. */
        int stampAfter(int[] known) {
            int greatest = 0;
            for (int e = 0; e < DEVICES; e++) {
                Deed last = find(e, known[e] - 1);
                if (last != null) {
                    greatest = Math.max(greatest, last.stamp);
                }
            }
            return greatest + 1;
        }

        /** Each UNDO takes the latest that is left, so UNDOS and DEEDS match like brackets. */
        int latestToUndo(int device, int done) {
            int undos = 0;
            for (int n = done - 1; n >= 0; n--) {
                Deed deed = find(device, n);
                if (deed != null && deed.sort == UNDO) {
                    undos++;
                } else if (undos > 0) {
                    undos--;
                } else {
                    return n;
                }
            }
            return NONE;
        }
    }

    /** What a set of DEEDS shows of one THING. */
    private static final class Thing {
        final int number;
        boolean isThere = false;
        boolean isStruck = false;
        int name = NONE;
        int count = 0;
        int bought = 0;
        int place = NONE;
        Row row = null;
        /** How far a STRIKE must KNOW each device's DEEDS to KNOW all that was done to it. */
        final int[] touched = new int[DEVICES];
        /** How far any of its BACKS KNOWS each device's DEEDS. */
        final int[] backsKnow = new int[DEVICES];

        Thing(int number) {
            this.number = number;
        }

        void begin(int firstName, int firstCount) {
            isThere = true;
            isStruck = false;
            name = firstName;
            count = firstCount;
            bought = 0;
            row = null;
            Arrays.fill(touched, 0);
            Arrays.fill(backsKnow, 0);
        }

        void noteBack(Deed deed) {
            for (int e = 0; e < DEVICES; e++) {
                backsKnow[e] = Math.max(backsKnow[e], deed.knew[e]);
            }
        }

        void judge(Deed strike, boolean strikesWin) {
            boolean isBroughtBack = strike.n < backsKnow[strike.device];
            if (!isBroughtBack && (strikesWin || strike.knowsAll(touched))) {
                isStruck = true;
            }
        }

        int tell(int what) {
            switch (what) {
                case 0: return asInt(isStruck);
                case 1: return name;
                case 2: return count;
                case 3: return bought;
                case 4: return place;
                default: return NOT_THERE;
            }
        }
    }

    /** A ROW: THINGS of one NAME. */
    private static final class Row {
        int keeper = NONE;
        int name = NONE;
        int count = 0;
        int bought = 0;
        int things = 0;
        boolean isDouble = false;
        /** How far the BUYS gone through reach in each device's DEEDS. */
        final int[] buys = new int[DEVICES];

        void begin(Thing first) {
            keeper = first.number;
            name = first.name;
            count = 0;
            bought = 0;
            things = 0;
            isDouble = false;
            Arrays.fill(buys, 0);
        }

        void include(Thing thing) {
            thing.row = this;
            count += thing.count;
            bought += thing.bought;
            things++;
        }

        /** BUYS come as they stand in line, so only the later one of two can KNOW the other. */
        void checkBuy(Deed deed) {
            if (!deed.knowsAll(buys)) {
                isDouble = true;
            }
            deed.includeIn(buys);
        }

        int tell(int what) {
            int atLeastNothing = Math.max(count, 0);
            switch (what) {
                case 0: return keeper;
                case 1: return name;
                case 2: return atLeastNothing;
                case 3: return bought;
                case 4: return Math.max(atLeastNothing - bought, 0);
                case 5: return things;
                case 6: return asInt(isDouble);
                default: return NONE;
            }
        }
    }

    /**
     * What a set of DEEDS shows. DEEDS never change, so the picture of a set never does either,
     * and it is drawn anew only when another set is asked for.
     */
    private static final class Picture {
        final boolean strikesWin;
        final int[] drawn = new int[DEVICES];
        final boolean[] undone = new boolean[DEEDS_ALL];
        /** The DEEDS that are looked at, as they stand in line. */
        final Deed[] looked = new Deed[DEEDS_ALL];
        int lookedCount = 0;
        /** By number; null, if it was never drawn. */
        final Thing[] things = new Thing[DEEDS_ALL];
        /** THE LINE of THINGS. */
        final Thing[] order = new Thing[DEEDS_ALL];
        int orderCount = 0;
        final Thing[] keeperOfName = new Thing[LAST_NAME + 1];
        final Row[] rows = new Row[DEEDS_ALL];
        int rowCount = 0;

        Picture(boolean strikesWin) {
            this.strikesWin = strikesWin;
        }

        void draw(Log log, int[] known) {
            if (isDrawn(known)) {
                return;
            }
            System.arraycopy(known, 0, drawn, 0, DEVICES);
            markUndone(log);
            pickLooked(log);
            layThings();
            judgeStrikes();
            chooseKeepers();
            gatherRows();
        }

        /** The THING, if it is there; else null. */
        Thing find(int thing) {
            if (thing < 0 || thing >= DEEDS_ALL || things[thing] == null) {
                return null;
            }
            return things[thing].isThere ? things[thing] : null;
        }

        private boolean isDrawn(int[] known) {
            for (int e = 0; e < DEVICES; e++) {
                if (known[e] != drawn[e]) {
                    return false;
                }
            }
            return true;
        }

        private boolean holds(Deed deed) {
            return deed.n < drawn[deed.device];
        }

        private void markUndone(Log log) {
            for (int i = 0; i < DEEDS_ALL; i++) {
                undone[i] = false;
            }
            for (int i = 0; i < log.size; i++) {
                Deed deed = log.line[i];
                if (deed.sort == UNDO && holds(deed)) {
                    undone[numberOf(deed.device, deed.thing)] = true;
                }
            }
        }

        private void pickLooked(Log log) {
            lookedCount = 0;
            for (int i = 0; i < log.size; i++) {
                Deed deed = log.line[i];
                if (deed.sort != UNDO && holds(deed)
                        && !undone[numberOf(deed.device, deed.n)] && !undone[deed.thing]) {
                    looked[lookedCount] = deed;
                    lookedCount++;
                }
            }
        }

        private void layThings() {
            for (Thing thing : things) {
                if (thing != null) {
                    thing.isThere = false;
                }
            }
            orderCount = 0;
            for (int i = 0; i < lookedCount; i++) {
                Deed deed = looked[i];
                if (deed.sort == PUT) {
                    bring(deed);
                } else {
                    change(deed);
                }
            }
        }

        private void bring(Deed put) {
            if (things[put.thing] == null) {
                things[put.thing] = new Thing(put.thing);
            }
            Thing thing = things[put.thing];
            thing.begin(put.name, put.amount);
            thing.place = orderCount;
            order[orderCount] = thing;
            orderCount++;
        }

        private void change(Deed deed) {
            Thing thing = find(deed.thing);
            if (thing == null || deed.sort == STRIKE) {
                return;
            }
            if (deed.sort == BACK) {
                thing.noteBack(deed);
                return;
            }
            deed.includeIn(thing.touched);
            switch (deed.sort) {
                case COUNT: thing.count += deed.amount; break;
                case BUY: thing.bought += deed.amount; break;
                case NAME: thing.name = deed.name; break;
                case MOVE: shift(thing, deed.amount); break;
                default: break;
            }
        }

        private void shift(Thing thing, int behind) {
            if (behind == NONE) {
                slide(thing, 0);
                return;
            }
            Thing other = find(behind);
            if (other == null) {
                slide(thing, orderCount - 1);
            } else {
                // Taking the THING out brings all that stood behind it one place forward.
                slide(thing, other.place < thing.place ? other.place + 1 : other.place);
            }
        }

        private void slide(Thing thing, int to) {
            int at = thing.place;
            while (at > to) {
                order[at] = order[at - 1];
                order[at].place = at;
                at--;
            }
            while (at < to) {
                order[at] = order[at + 1];
                order[at].place = at;
                at++;
            }
            order[at] = thing;
            thing.place = at;
        }

        private void judgeStrikes() {
            for (int i = 0; i < lookedCount; i++) {
                Thing thing = find(looked[i].thing);
                if (looked[i].sort == STRIKE && thing != null) {
                    thing.judge(looked[i], strikesWin);
                }
            }
        }

        /** Goes backwards, so that of each NAME the first PUT in line is what stays. */
        private void chooseKeepers() {
            for (int i = lookedCount - 1; i >= 0; i--) {
                Thing thing = find(looked[i].thing);
                if (looked[i].sort == PUT && thing != null && !thing.isStruck) {
                    keeperOfName[thing.name] = thing;
                }
            }
        }

        private void gatherRows() {
            rowCount = 0;
            for (int i = 0; i < orderCount; i++) {
                if (!order[i].isStruck && keeperOfName[order[i].name] == order[i]) {
                    openRow(order[i]);
                }
            }
            for (int i = 0; i < orderCount; i++) {
                Thing keeper = keeperOfName[order[i].name];
                if (!order[i].isStruck && keeper != null && keeper.row != null) {
                    keeper.row.include(order[i]);
                }
            }
            for (int i = 0; i < lookedCount; i++) {
                Thing thing = find(looked[i].thing);
                if (looked[i].sort == BUY && thing != null && thing.row != null) {
                    thing.row.checkBuy(looked[i]);
                }
            }
        }

        private void openRow(Thing keeper) {
            if (rows[rowCount] == null) {
                rows[rowCount] = new Row();
            }
            rows[rowCount].begin(keeper);
            keeper.row = rows[rowCount];
            rowCount++;
        }
    }
}
