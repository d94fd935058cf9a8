import java.util.function.Supplier;

/**
 * All that can be asked of an object, as text. Each part is asked of an object made anew, so that
 * none is used for more than the 512 calls that the document promises.
 */
final class Snapshot {
    private static final int NONE = PocketList.NONE;
    private static final int DEVICES = 4, DEEDS_EACH = 40;

    private final Supplier<PocketList> maker;
    private final StringBuilder text = new StringBuilder();

    private Snapshot(Supplier<PocketList> maker) {
        this.maker = maker;
    }

    static String of(Supplier<PocketList> maker) {
        Snapshot snapshot = new Snapshot(maker);
        snapshot.tellKnowledge();
        snapshot.tellView(NONE);
        for (int d = 0; d < DEVICES; d++) {
            snapshot.tellDeeds(d);
            snapshot.tellView(d);
        }
        snapshot.tellWhatComesNext();
        return snapshot.text.toString();
    }

    private void tell(String part, int answer) {
        text.append(part).append(' ').append(answer).append('\n');
    }

    private void tellKnowledge() {
        PocketList x = maker.get();
        for (int what = 0; what < 5; what++) {
            tell("about " + what, x.about(what));
        }
        for (int d = 0; d < DEVICES; d++) {
            tell("keeps " + d, x.keeps(d));
            for (int e = 0; e < DEVICES; e++) {
                tell("knows " + d + " " + e, x.knows(d, e, 0, 0));
                for (int f = 0; f < DEVICES; f++) {
                    tell("knows " + d + " " + e + " " + f, x.knows(d, e, f, 1));
                }
            }
        }
    }

    private void tellDeeds(int d) {
        PocketList x = maker.get();
        for (int n = 0; n < DEEDS_EACH; n++) {
            for (int what = 0; what < 4; what++) {
                tell("deed " + d + " " + n + " " + what, x.deed(d, n, what));
            }
        }
    }

    /** THE VIEW as it stands (NONE), or what a device knows. */
    private void tellView(int device) {
        tellRows(device);
        for (int first = 0; first < DEVICES * DEEDS_EACH; first += DEEDS_EACH) {
            PocketList x = viewOf(device);
            for (int thing = first; thing < first + DEEDS_EACH; thing++) {
                for (int what = 0; what < 5; what++) {
                    tell("view " + device + " thing " + thing + " " + what, x.thing(thing, what));
                }
            }
        }
    }

    private void tellRows(int device) {
        PocketList x = viewOf(device);
        tell("view " + device + " rows", x.rows());
        for (int i = 0; i < DEEDS_EACH; i++) {
            for (int what = 0; what < 7; what++) {
                tell("view " + device + " row " + i + " " + what, x.row(i, what));
            }
        }
    }

    private PocketList viewOf(int device) {
        PocketList x = maker.get();
        if (device != NONE) {
            tell("view " + device, x.view(device, NONE) ? 1 : 0);
        }
        return x;
    }

    /** A call that was refused might show only in the number or the STAMP of the next DEED. */
    private void tellWhatComesNext() {
        PocketList x = maker.get();
        for (int d = 0; d < DEVICES; d++) {
            int thing = x.put(d, 1, 1);
            tell("next put " + d, thing);
            tell("its stamp", thing == NONE ? NONE : x.deed(d, thing - DEEDS_EACH * d, 1));
            tell("next undo " + d, x.undo(d));
            tell("undo after it " + d, x.undo(d));
        }
        tell("next device", x.device(0));
    }
}
