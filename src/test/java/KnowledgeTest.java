/** Terms III and the promises on them: what a device reckons that each knew, what is SEEN, and what it KEEPS. */
public final class KnowledgeTest {
    private static final int NONE = PocketList.NONE;

    private static final Checks CHECKS = new Checks();

    public static void main(String[] args) {
        aloneItKeepsNothing();
        aNewDeviceHasMet();
        aNewDeviceFromEachOne();
        bothKnowOfEachOther();
        notForSureWhatCameLater();
        ofOthersWhatEitherKnew();
        ofItself();
        whatZeroAsksForNoOther();
        seenByAll();
        keepsWhatOneDoesNotKnow();
        aDeviceNeverMet();
        refusedMeetingsTellNothing();
        CHECKS.end();
    }

    private static void due(String call, long want, long got) {
        CHECKS.due(call, want, got);
    }

    /** So many devices that have met before any DEED was done. */
    private static PocketList house(int devices) {
        PocketList x = new PocketList(0);
        x.device(NONE);
        for (int d = 1; d < devices; d++) {
            x.device(0);
        }
        return x;
    }

    private static void putAll(PocketList x, int d, int many) {
        for (int i = 0; i < many; i++) {
            x.put(d, 1, 1);
        }
    }

    private static void aloneItKeepsNothing() {
        CHECKS.part("KEEPS: a device alone");
        PocketList x = house(1);
        due("keeps(0), no DEEDS", 0, x.keeps(0));
        putAll(x, 0, 3);
        due("keeps(0), all devices know them", 0, x.keeps(0));
        due("keeps(1), there is none such", NONE, x.keeps(1));
        x.device(0);
        due("keeps(0), the new one knows all", 0, x.keeps(0));
        due("keeps(1)", 0, x.keeps(1));
        x.undo(0);
        due("keeps(0), an UNDO is a DEED", 1, x.keeps(0));
    }

    private static void aNewDeviceHasMet() {
        CHECKS.part("a new device: both have MET then");
        PocketList x = house(2);
        putAll(x, 0, 3);
        putAll(x, 1, 2);
        due("device(0)", 2, x.device(0));
        due("knows(2, 0, ..)", 3, x.knows(2, 0, 0, 0));
        due("knows(2, 1, ..), 0 didn't know", 0, x.knows(2, 1, 0, 0));
        due("knows(2, 0, 0, 1), of the one it came from", 3, x.knows(2, 0, 0, 1));
        due("knows(0, 0, 2, 1), that one of it", 3, x.knows(0, 0, 2, 1));
        due("knows(2, 0, 1, 1), of the third", 0, x.knows(2, 0, 1, 1));
        due("knows(1, 0, 2, 1), the third of it", 0, x.knows(1, 0, 2, 1));
        due("knows(1, 1, 2, 1), the third of it", 0, x.knows(1, 1, 2, 1));
        due("knows(2, 2, 2, 0), nothing done yet", 0, x.knows(2, 2, 2, 0));
        due("undo(2), it has none of its own", NONE, x.undo(2));
        x.put(2, 1, 1);
        due("deed(2, 0, 1)", 4, x.deed(2, 0, 1));
        due("deed(2, 0, 3)", 3, x.deed(2, 0, 3));
    }

    private static void aNewDeviceFromEachOne() {
        CHECKS.part("a new device: knows what another one does, whichever it is");
        for (int from = 0; from < 3; from++) {
            PocketList x = house(3);
            for (int d = 0; d < 3; d++) {
                putAll(x, d, d + 1);
            }
            due("device(" + from + ")", 3, x.device(from));
            for (int e = 0; e < 3; e++) {
                due("knows(3, " + e + ", ..)", e == from ? e + 1 : 0, x.knows(3, e, 0, 0));
                due("knows(3, " + e + ", from, 1)", e == from ? e + 1 : 0, x.knows(3, e, from, 1));
                due("knows(from, " + e + ", 3, 1)", e == from ? e + 1 : 0, x.knows(from, e, 3, 1));
            }
        }
    }

    private static void bothKnowOfEachOther() {
        CHECKS.part("at a MEETING both know of each other what they know now");
        for (int a = 0; a < 4; a++) {
            for (int b = 0; b < 4; b++) {
                if (a == b) {
                    continue;
                }
                PocketList x = house(4);
                for (int d = 0; d < 4; d++) {
                    putAll(x, d, d + 1);
                }
                due("meet(" + a + ", " + b + ")", a + b + 2, x.meet(a, b));
                for (int d = 0; d < 4; d++) {
                    for (int f = 0; f < 4; f++) {
                        boolean bothMet = (d == a || d == b) && (f == a || f == b);
                        dueOf(x, d, f, a, bothMet ? a + 1 : d == f && d == a ? a + 1 : 0);
                        dueOf(x, d, f, b, bothMet ? b + 1 : d == f && d == b ? b + 1 : 0);
                    }
                }
            }
        }
    }

    private static void dueOf(PocketList x, int d, int f, int e, int want) {
        due("knows(" + d + ", " + e + ", " + f + ", 1)", want, x.knows(d, e, f, 1));
    }

    private static void notForSureWhatCameLater() {
        CHECKS.part("DEEDS that this one knew for sure");
        PocketList x = house(2);
        putAll(x, 0, 2);
        x.meet(0, 1);
        putAll(x, 1, 3);
        due("knows(0, 1, 1, 1), done since", 0, x.knows(0, 1, 1, 1));
        due("knows(0, 0, 1, 1)", 2, x.knows(0, 0, 1, 1));
        putAll(x, 0, 1);
        due("knows(0, 0, 1, 1), done since", 2, x.knows(0, 0, 1, 1));
        due("knows(1, 0, 0, 1), done since", 2, x.knows(1, 0, 0, 1));
        due("knows(1, 1, 0, 1), 0 wasn't told", 0, x.knows(1, 1, 0, 1));
        x.meet(1, 0);
        due("knows(0, 1, 1, 1), told", 3, x.knows(0, 1, 1, 1));
        due("knows(1, 0, 0, 1), told", 3, x.knows(1, 0, 0, 1));
    }

    private static void ofOthersWhatEitherKnew() {
        CHECKS.part("of others what either knew of them");
        for (int a = 0; a < 4; a++) {
            for (int b = 0; b < 4; b++) {
                for (int c = 0; c < 4; c++) {
                    if (a != b && a != c && b != c) {
                        oneOfTwoTellsOfOthers(a, b, c, 6 - a - b - c);
                    }
                }
            }
        }
    }

    /** Of c the first one knew, of e the second one. */
    private static void oneOfTwoTellsOfOthers(int a, int b, int c, int e) {
        PocketList x = house(4);
        putAll(x, a, 1);
        x.meet(a, c);
        putAll(x, b, 2);
        x.meet(b, e);
        dueOf(x, a, c, a, 1);
        dueOf(x, a, e, b, 0);
        dueOf(x, b, e, b, 2);
        dueOf(x, b, c, a, 0);
        x.meet(a, b);
        for (int d : new int[] {a, b}) {
            dueOf(x, d, c, a, 1);
            dueOf(x, d, c, b, 0);
            dueOf(x, d, e, a, 0);
            dueOf(x, d, e, b, 2);
        }
        dueOf(x, c, b, a, 0);
        dueOf(x, e, a, b, 0);
        x.meet(b, c);
        x.meet(c, e);
        for (int f = 0; f < 4; f++) {
            dueOf(x, e, f, a, 1);
            dueOf(x, e, f, b, 2);
            dueOf(x, c, f, a, 1);
            dueOf(x, c, f, b, 2);
        }
    }

    private static void ofItself() {
        CHECKS.part("of itself, too");
        PocketList x = house(2);
        due("knows(0, 0, 0, 1), none yet", 0, x.knows(0, 0, 0, 1));
        x.put(0, 1, 1);
        due("knows(0, 0, 0, 1), at once", 1, x.knows(0, 0, 0, 1));
        putAll(x, 1, 2);
        due("knows(0, 1, 0, 1)", 0, x.knows(0, 1, 0, 1));
        x.meet(0, 1);
        due("knows(0, 1, 0, 1)", 2, x.knows(0, 1, 0, 1));
    }

    private static void whatZeroAsksForNoOther() {
        CHECKS.part("knows with what 0: how many d knows, whatever f");
        PocketList x = house(3);
        putAll(x, 0, 1);
        putAll(x, 1, 2);
        x.meet(0, 1);
        for (int f : new int[] {0, 1, 2}) {
            due("knows(0, 1, " + f + ", 0)", 2, x.knows(0, 1, f, 0));
            due("knows(1, 0, " + f + ", 0)", 1, x.knows(1, 0, f, 0));
            due("knows(2, 0, " + f + ", 0)", 0, x.knows(2, 0, f, 0));
        }
    }

    private static void seenByAll() {
        CHECKS.part("SEEN: a DEED that, as it reckons, all devices know");
        PocketList x = house(4);
        putAll(x, 3, 2);
        due("keeps(3)", 2, x.keeps(3));
        due("keeps(0), it knows none", 0, x.keeps(0));
        x.meet(3, 2);
        x.meet(2, 1);
        due("keeps(1), 0 doesn't know", 2, x.keeps(1));
        x.meet(1, 0);
        due("keeps(0), the last to know knows that all do", 0, x.keeps(0));
        due("keeps(1)", 0, x.keeps(1));
        due("keeps(2), not told", 2, x.keeps(2));
        due("keeps(3), not told", 2, x.keeps(3));
        x.meet(3, 2);
        due("keeps(3), 2 couldn't tell it", 2, x.keeps(3));
        x.meet(3, 0);
        due("keeps(3)", 0, x.keeps(3));
    }

    private static void keepsWhatOneDoesNotKnow() {
        CHECKS.part("KEEPS: those that it knows and that aren't SEEN");
        for (int behind = 0; behind < 3; behind++) {
            PocketList x = house(3);
            int one = behind == 0 ? 1 : 0;
            int other = behind == 2 ? 1 : 2;
            putAll(x, one, 3);
            x.meet(one, other);
            due("keeps, " + behind + " is behind", 3, x.keeps(one));
            due("keeps of the other", 3, x.keeps(other));
            due("keeps of the one that is behind", 0, x.keeps(behind));
            x.meet(other, behind);
            due("keeps of the other", 0, x.keeps(other));
            due("keeps of the one that was behind", 0, x.keeps(behind));
            due("keeps, it isn't told yet", 3, x.keeps(one));
            putAll(x, one, 1);
            due("keeps, and one more", 4, x.keeps(one));
        }
    }

    private static void aDeviceNeverMet() {
        CHECKS.part("SEEN: all devices, one never met, too");
        PocketList x = house(2);
        putAll(x, 0, 2);
        putAll(x, 1, 1);
        x.meet(0, 1);
        due("keeps(0)", 0, x.keeps(0));
        due("keeps(1)", 0, x.keeps(1));
        x.device(1);
        due("keeps(0), of 2 it knows nothing", 3, x.keeps(0));
        due("keeps(1)", 0, x.keeps(1));
        due("keeps(2)", 0, x.keeps(2));
        x.meet(0, 1);
        due("keeps(0), told by 1", 0, x.keeps(0));
    }

    private static void refusedMeetingsTellNothing() {
        CHECKS.part("a MEETING that is refused");
        PocketList x = house(2);
        putAll(x, 0, 2);
        due("meet(0, 0)", NONE, x.meet(0, 0));
        due("meet(1, 1)", NONE, x.meet(1, 1));
        due("meet(0, 2)", NONE, x.meet(0, 2));
        due("keeps(0)", 2, x.keeps(0));
        due("knows(0, 0, 1, 1)", 0, x.knows(0, 0, 1, 1));
        due("knows(1, 0, 0, 0)", 0, x.knows(1, 0, 0, 0));
    }
}
