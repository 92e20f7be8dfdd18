/** Promise 4, and when a table is WRONG. */
public final class PlaceTest {
    private static final int[] RIGHT = {5, 3, 20, 4, 2, 6, 6, 0};

    public static void main(String[] args) {
        edgesOfEachEntry();
        theFirstWrongEntryIsToldFirst();
        unusedPhasesAreNotLookedAt();
        sidesComeLast();
        theLastTableCounts();
        Check.end();
    }

    private static void edgesOfEachEntry() {
        entry(0, new int[] {1, 20}, new int[] {});
        entry(1, new int[] {0, 10}, new int[] {11, 99});
        entry(2, new int[] {5, 60}, new int[] {4, 0, 61, 99});
        entry(3, new int[] {3, 6}, new int[] {0, 2, 7, 99});
        entry(4, new int[] {0, 4}, new int[] {5, 99});
        entry(5, new int[] {1, 20}, new int[] {21, 99});
        entry(6, new int[] {1, 20}, new int[] {0, 21, 99});
        entry(7, new int[] {0, 1, 2, 3}, new int[] {4, 99});
        with("MIN 30", -1, 0, 30, 2, 60);
        with("MIN 31", 24, 0, 31, 2, 60);
        with("no WALK", -1, 5, 0, 6, 0);
        with("CLEAR without WALK", 30, 5, 0, 6, 1);
        with("RECALL 3 with WALK", -1, 7, 3, 5, 1);
        BarrierLights x = table();
        x.put(0, 3, 5, 0);
        x.put(0, 3, 6, 0);
        x.put(0, 3, 7, 3);
        expect(x, "RECALL 3 without WALK", 31);
        x.put(0, 3, 7, 2);
        expect(x, "RECALL 2 without WALK", -1);
        BarrierLights y = new BarrierLights();
        Check.write(y, 0, 1, 5, 3, 20, 4, 2, 6, 6, 3);
        Check.write(y, 0, 2, 5, 3, 20, 4, 2, 0, 0, 0);
        expect(y, "RECALL 3 of one phase, no WALK of the next", -1);
    }

    /** Phases 0 and 3 of crossing 0 have the right entries. */
    private static BarrierLights table() {
        BarrierLights x = new BarrierLights();
        Check.write(x, 0, 0, RIGHT);
        Check.write(x, 0, 3, RIGHT);
        return x;
    }

    private static void entry(int what, int[] right, int[] wrong) {
        for (int v : right) {
            BarrierLights x = table();
            x.put(0, 3, what, v);
            expect(x, "what " + what + " is " + v, -1);
        }
        for (int v : wrong) {
            BarrierLights x = table();
            x.put(0, 3, what, v);
            expect(x, "what " + what + " is " + v, 8 * 3 + what);
        }
    }

    private static void with(String name, int place, int what, int v, int otherWhat, int other) {
        BarrierLights x = table();
        x.put(0, 3, what, v);
        x.put(0, 3, otherWhat, other);
        expect(x, name, place);
    }

    private static void expect(BarrierLights x, String name, int place) {
        Check.dueText("enact with " + name, Check.enact(x, 0), place == -1 ? "2" : "IllegalStateException");
        Check.due("place with " + name, x.place(0), place);
    }

    private static void theFirstWrongEntryIsToldFirst() {
        BarrierLights x = new BarrierLights();
        Check.write(x, 0, 7, 31, 11, 0, 0, 5, 21, 21, 4);
        int[] mended = {1, 0, 1, 3, 0, 0, 0, 0};
        for (int what = 0; what < 8; what++) {
            Check.dueText("enact", Check.enact(x, 0), "IllegalStateException");
            Check.due("place", x.place(0), 56 + what);
            x.put(0, 7, what, mended[what]);
        }
        Check.write(x, 0, 0, 1, 99);
        Check.write(x, 0, 6, 99);
        Check.enact(x, 0);
        Check.due("phases go before what", x.place(0), 1);
    }

    private static void unusedPhasesAreNotLookedAt() {
        BarrierLights x = table();
        Check.write(x, 0, 1, 0, 99, 99, 99, 99, 99, 99, 99);
        expect(x, "an unused phase", -1);
    }

    private static void sidesComeLast() {
        for (int phase = 0; phase < 8; phase++) {
            BarrierLights x = new BarrierLights();
            Check.write(x, 1, phase, RIGHT);
            Check.dueText("enact of one phase", Check.enact(x, 1), "IllegalStateException");
            boolean isOfSide0 = phase == 0 || phase == 1 || phase == 4 || phase == 5;
            Check.due("place with phase " + phase, x.place(1), isOfSide0 ? 65 : 64);
            x.put(1, phase, 4, 5);
            Check.dueText("enact", Check.enact(x, 1), "IllegalStateException");
            Check.due("entries go before sides", x.place(1), 8 * phase + 4);
        }
    }

    private static void theLastTableCounts() {
        BarrierLights x = new BarrierLights();
        Check.due("place before", x.place(0), -1);
        Check.enact(x, 0);
        Check.due("place", x.place(0), 64);
        Check.due("place of the other", x.place(1), -1);
        Check.write(x, 0, 1, RIGHT);
        Check.write(x, 0, 6, RIGHT);
        Check.due("place before the next enact", x.place(0), 64);
        Check.dueText("enact", Check.enact(x, 0), "2");
        Check.due("place", x.place(0), -1);
        x.put(0, 6, 3, 9);
        Check.enact(x, 0);
        Check.due("place", x.place(0), 51);
        for (int wrong : new int[] {-1, 2, Integer.MIN_VALUE, Integer.MAX_VALUE}) {
            Check.due("place(" + wrong + ")", x.place(wrong), -1);
        }
    }
}
