/** Terms: when a phase is USED and where a table is WRONG, at each bound and on either side of it, for each phase. */
public final class TableEdgesTest {
    private static final int[] RIGHT = {5, 3, 20, 4, 2, 6, 6, 0};
    private static final int MIN = 0;
    private static final int MAX = 2;
    private static final int WALK = 5;
    private static final int CLEAR = 6;
    private static final int RECALL = 7;

    public static void main(String[] args) {
        for (int phase = 0; phase < 8; phase++) {
            minAtMost30(phase);
            passageAtMost10(phase);
            maxFromMinTo60(phase);
            yellowFrom3To6(phase);
            redAtMost4(phase);
            walkAtMost20(phase);
            clearFrom1To20WithWalk(phase);
            clearIs0WithoutWalk(phase);
            recallAtMost3(phase);
            recallNot3WithoutWalk(phase);
            usedIfMinIsNot0(phase);
            entriesOfAPhaseThatIsNotUsed(phase);
            aSideOfWhichNoPhaseIsUsed(phase);
        }
        theFirstByPhasesAndThenByWhat();
        noPhaseAtAll();
        onePhaseOfEachSideIsEnough();
        everyEntryBeforeTheSides();
        Check.end();
    }

    /** All phases of crossing 1 are right. */
    private static BarrierLights full() {
        BarrierLights x = new BarrierLights();
        for (int phase = 0; phase < 8; phase++) {
            Check.write(x, 1, phase, RIGHT);
        }
        return x;
    }

    private static void right(BarrierLights x, int phase, int what, int... values) {
        for (int v : values) {
            String name = "with what " + what + " of phase " + phase + " being " + v;
            x.put(1, phase, what, v);
            Check.dueText("enact " + name, Check.enact(x, 1), "8");
            Check.due("place " + name, x.place(1), -1);
        }
    }

    private static void wrong(BarrierLights x, int phase, int what, int... values) {
        for (int v : values) {
            x.put(1, phase, what, v);
            wrongAt(x, 8 * phase + what, "with what " + what + " of phase " + phase + " being " + v);
        }
    }

    private static void wrongAt(BarrierLights x, int place, String name) {
        Check.dueText("enact " + name, Check.enact(x, 1), "IllegalStateException");
        Check.due("place " + name, x.place(1), place);
    }

    private static void minAtMost30(int phase) {
        BarrierLights x = full();
        x.put(1, phase, MAX, 60);
        right(x, phase, MIN, 1, 2, 29, 30);
        wrong(x, phase, MIN, 31, 32, 60, 61, 99);
        right(x, phase, MIN, 30);
    }

    private static void passageAtMost10(int phase) {
        BarrierLights x = full();
        right(x, phase, 1, 0, 1, 9, 10);
        wrong(x, phase, 1, 11, 12, 99);
        right(x, phase, 1, 10);
    }

    private static void maxFromMinTo60(int phase) {
        BarrierLights x = full();
        wrong(x, phase, MAX, 0, 3, 4);
        right(x, phase, MAX, 5, 6, 59, 60);
        wrong(x, phase, MAX, 61, 62, 99);
        x.put(1, phase, MIN, 1);
        wrong(x, phase, MAX, 0);
        right(x, phase, MAX, 1, 2);
        x.put(1, phase, MIN, 30);
        wrong(x, phase, MAX, 29);
        right(x, phase, MAX, 30, 31);
    }

    private static void yellowFrom3To6(int phase) {
        BarrierLights x = full();
        wrong(x, phase, 3, 0, 1, 2);
        right(x, phase, 3, 3, 4, 5, 6);
        wrong(x, phase, 3, 7, 8, 99);
    }

    private static void redAtMost4(int phase) {
        BarrierLights x = full();
        right(x, phase, 4, 0, 1, 3, 4);
        wrong(x, phase, 4, 5, 6, 99);
    }

    private static void walkAtMost20(int phase) {
        BarrierLights x = full();
        right(x, phase, WALK, 1, 2, 19, 20);
        wrong(x, phase, WALK, 21, 22, 99);
    }

    private static void clearFrom1To20WithWalk(int phase) {
        BarrierLights x = full();
        x.put(1, phase, WALK, 1);
        wrong(x, phase, CLEAR, 0);
        right(x, phase, CLEAR, 1, 2, 19, 20);
        wrong(x, phase, CLEAR, 21, 22, 99);
    }

    private static void clearIs0WithoutWalk(int phase) {
        BarrierLights x = full();
        x.put(1, phase, WALK, 0);
        wrong(x, phase, CLEAR, 1, 2, 20, 21, 99);
        right(x, phase, CLEAR, 0);
    }

    private static void recallAtMost3(int phase) {
        BarrierLights x = full();
        x.put(1, phase, WALK, 1);
        right(x, phase, RECALL, 0, 1, 2, 3);
        wrong(x, phase, RECALL, 4, 5, 99);
    }

    private static void recallNot3WithoutWalk(int phase) {
        BarrierLights x = full();
        x.put(1, phase, WALK, 0);
        x.put(1, phase, CLEAR, 0);
        right(x, phase, RECALL, 0, 1, 2);
        wrong(x, phase, RECALL, 3, 4, 99);
    }

    private static void usedIfMinIsNot0(int phase) {
        BarrierLights x = full();
        x.put(1, phase, MIN, 0);
        Check.dueText("enact, MIN of phase " + phase + " being 0", Check.enact(x, 1), "7");
        Check.due("its lamps", x.lamp(1, phase), 0);
        Check.due("its signs", x.signs(1, phase), 0);
        x.put(1, phase, MIN, 1);
        Check.dueText("enact, MIN of phase " + phase + " being 1", Check.enact(x, 1), "8");
        Check.due("its lamps", x.lamp(1, phase), 1);
        Check.due("its signs", x.signs(1, phase), 1);
    }

    private static void entriesOfAPhaseThatIsNotUsed(int phase) {
        BarrierLights x = full();
        Check.write(x, 1, phase, 0, 99, 99, 99, 99, 99, 99, 99);
        Check.dueText("enact, phase " + phase + " not being used", Check.enact(x, 1), "7");
        Check.due("place", x.place(1), -1);
        x.put(1, phase, MIN, 1);
        wrongAt(x, 8 * phase + 1, "phase " + phase + " being used");
    }

    /** The phase's own side is emptied, and then has this phase alone. */
    private static void aSideOfWhichNoPhaseIsUsed(int phase) {
        int side = phase / 2 % 2;
        BarrierLights x = full();
        for (int other = 0; other < 8; other++) {
            if (other / 2 % 2 == side && other != phase) {
                x.put(1, other, MIN, 0);
            }
        }
        Check.dueText("enact, phase " + phase + " alone on its side", Check.enact(x, 1), "5");
        x.put(1, phase, MIN, 0);
        wrongAt(x, 64 + side, "no phase of side " + side + " being used");
        Check.dueText("the crossing goes on with phase " + phase, "" + x.lamp(1, phase), "1");
    }

    /** All 64 entries are wrong; they are mended one by one. */
    private static void theFirstByPhasesAndThenByWhat() {
        int[] wrong = {31, 11, 61, 7, 5, 21, 21, 4};
        BarrierLights x = new BarrierLights();
        for (int phase = 0; phase < 8; phase++) {
            Check.write(x, 1, phase, wrong);
        }
        for (int place = 0; place < 64; place++) {
            wrongAt(x, place, "being right up to " + place);
            x.put(1, place / 8, place % 8, RIGHT[place % 8]);
        }
        Check.dueText("enact, all being right", Check.enact(x, 1), "8");
        Check.due("place", x.place(1), -1);
    }

    private static void noPhaseAtAll() {
        BarrierLights x = new BarrierLights();
        wrongAt(x, 64, "of an empty table");
        Check.write(x, 1, 5, RIGHT);
        wrongAt(x, 65, "side 0 having a phase");
        x.put(1, 5, MIN, 0);
        Check.write(x, 1, 3, RIGHT);
        wrongAt(x, 64, "side 1 having a phase");
        x.put(1, 3, MIN, 0);
        wrongAt(x, 64, "both sides being empty again");
    }

    private static void onePhaseOfEachSideIsEnough() {
        for (int one : new int[] {0, 1, 4, 5}) {
            for (int other : new int[] {2, 3, 6, 7}) {
                BarrierLights x = new BarrierLights();
                Check.write(x, 1, one, RIGHT);
                Check.write(x, 1, other, RIGHT);
                Check.dueText("enact of " + one + " and " + other, Check.enact(x, 1), "2");
                Check.due("place", x.place(1), -1);
            }
        }
    }

    /** The last entry of all is told before side 0. */
    private static void everyEntryBeforeTheSides() {
        BarrierLights x = new BarrierLights();
        Check.write(x, 1, 7, RIGHT);
        x.put(1, 7, RECALL, 4);
        wrongAt(x, 63, "an entry and a side being wrong");
        x.put(1, 7, RECALL, 3);
        wrongAt(x, 64, "the side alone being wrong");
    }
}
