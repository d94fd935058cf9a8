import java.util.Random;

/** Runs of 512 calls, right and wrong ones, each answer held against the model's. */
public final class ModelTest {
    private static final int RUNS = 1500;
    private static final int CALLS = 512;
    private static final int[] ODD = {-1, -2, 0, 4, 5, 7, 39, 40, 41, 99, 100, -99, -100, 159, 160, 999, 1000,
        Integer.MAX_VALUE, Integer.MIN_VALUE};

    private final Checks checks = new Checks();
    private final Random random;
    private final PocketList list;
    private final Model model;
    private final int oddIn;
    private final int names;
    private final int things;
    private final int asked;
    private String call = "";

    private ModelTest(int seed) {
        random = new Random(seed);
        checks.part("run " + seed);
        int strikesWin = random.nextInt(3) - 1;
        list = new PocketList(strikesWin);
        model = new Model(strikesWin);
        oddIn = 5 + random.nextInt(60);
        names = 1 + random.nextInt(6);
        things = 1 + random.nextInt(12);
        asked = 20 + random.nextInt(60);
    }

    public static void main(String[] args) {
        for (int seed = 1; seed <= RUNS; seed++) {
            ModelTest run = new ModelTest(seed);
            for (int i = 0; i < CALLS && !run.checks.hasWrong(); i++) {
                run.step(i);
            }
            run.checks.end();
        }
    }

    private int odd() {
        return ODD[random.nextInt(ODD.length)];
    }

    private int within(int from, int to) {
        return random.nextInt(oddIn) == 0 ? odd() : from + random.nextInt(to - from + 1);
    }

    private int device() {
        return within(0, Math.max(0, model.about(0) - 1));
    }

    private int thing() {
        return within(0, 3) * 40 + within(0, random.nextInt(4) == 0 ? 39 : things);
    }

    private void held(String what, long want, long got) {
        checks.due(call + what, want, got);
    }

    private static int bit(boolean is) {
        return is ? 1 : 0;
    }

    private void step(int i) {
        call = "call " + i + ", ";
        if (model.about(0) == 0 || random.nextInt(100) == 0) {
            int from = random.nextInt(3) == 0 ? -1 : device();
            held("device " + from, model.device(from), list.device(from));
        } else if (random.nextInt(100) < asked) {
            ask();
        } else {
            change();
        }
    }

    private void change() {
        int d = device(), t = thing();
        switch (random.nextInt(14)) {
            case 0: case 1: {
                int e = device();
                held("meet " + d + " " + e, model.meet(d, e), list.meet(d, e));
                break;
            }
            case 2: case 3: {
                int name = within(1, names), count = within(0, 9);
                held("put " + d + " " + name + " " + count, model.put(d, name, count), list.put(d, name, count));
                break;
            }
            case 4: {
                int by = within(-9, 9);
                held("count " + d + " " + t + " " + by, bit(model.count(d, t, by)), bit(list.count(d, t, by)));
                break;
            }
            case 5: case 6: {
                int many = within(1, 9);
                held("buy " + d + " " + t + " " + many, bit(model.buy(d, t, many)), bit(list.buy(d, t, many)));
                break;
            }
            case 7: case 8:
                held("strike " + d + " " + t, bit(model.strike(d, t)), bit(list.strike(d, t)));
                break;
            case 9:
                held("back " + d + " " + t, bit(model.back(d, t)), bit(list.back(d, t)));
                break;
            case 10: case 11: {
                int behind = random.nextInt(4) == 0 ? -1 : thing();
                held("move " + d + " " + t + " " + behind, bit(model.move(d, t, behind)), bit(list.move(d, t, behind)));
                break;
            }
            case 12: {
                int name = within(1, names);
                held("name " + d + " " + t + " " + name, bit(model.name(d, t, name)), bit(list.name(d, t, name)));
                break;
            }
            default:
                held("undo " + d, model.undo(d), list.undo(d));
        }
    }

    private void ask() {
        int d = device(), what = within(-1, 7);
        switch (random.nextInt(12)) {
            case 0: {
                int n = random.nextInt(2) == 0 ? -1 : within(0, 39);
                held("view " + d + " " + n, bit(model.view(d, n)), bit(list.view(d, n)));
                break;
            }
            case 1:
                held("rows", model.rows(), list.rows());
                break;
            case 2: case 3: case 4: {
                int i = within(0, Math.max(0, model.rows()));
                held("row " + i + " " + what, model.row(i, what), list.row(i, what));
                break;
            }
            case 5: case 6: case 7: {
                int t = thing();
                held("thing " + t + " " + what, model.thing(t, what), list.thing(t, what));
                break;
            }
            case 8: {
                int e = device(), f = device(), half = within(0, 1);
                held("knows " + d + " " + e + " " + f + " " + half, model.knows(d, e, f, half), list.knows(d, e, f, half));
                break;
            }
            case 9:
                held("keeps " + d, model.keeps(d), list.keeps(d));
                break;
            case 10: {
                int n = within(0, 39);
                held("deed " + d + " " + n + " " + what, model.deed(d, n, what), list.deed(d, n, what));
                break;
            }
            default:
                held("about " + what, model.about(what), list.about(what));
        }
    }
}
