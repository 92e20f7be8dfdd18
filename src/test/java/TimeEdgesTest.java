/** Terms, (d) of a tick: how long a state lasts, from the least to the most that a table allows. */
public final class TimeEdgesTest {
    public static void main(String[] args) {
        greenIsAtLeastMin();
        greenIsAtMostMax();
        againstBeginsWithWhatIsWanted();
        yellowAndRedToTheTick();
        redOf0IsOverAtOnce();
        walkAndClearToTheTick();
        greenEndsWithClear();
        minBeyondClear();
        aWaitingRingDoesNotAge();
        whatIsNextBegins();
        whatBeginsIsZeroOld();
        aPhaseThatBeginsLosesItsCalls();
        bothRings();
        againstStaysWhileNothingIsWanted();
        againstInWalkAndClearToo();
        Check.end();
    }

    /** Phase 2 has a call from the start and phase 0 no detector: its green ends with MIN. */
    private static void greenIsAtLeastMin() {
        for (int min : new int[] {1, 2, 3, 29, 30}) {
            BarrierLights x = new BarrierLights();
            Check.write(x, 0, 0, min, 10, 60, 3, 0, 0, 0, 0);
            Check.write(x, 0, 2, 1, 0, 60, 3, 0, 0, 0, 0);
            Check.enact(x, 0);
            Check.lampTrace("MIN " + min, x, 0, min + " G", "3 Y", "3 R");
        }
    }

    /** RECALL 2 keeps the GAP: its green ends with MAX. */
    private static void greenIsAtMostMax() {
        int[][] minAndMax = {{1, 1}, {1, 2}, {1, 3}, {2, 2}, {30, 30}, {30, 31}, {1, 59}, {30, 60}};
        for (int[] row : minAndMax) {
            BarrierLights x = new BarrierLights();
            Check.write(x, 0, 0, row[0], 10, row[1], 3, 0, 0, 0, 2);
            Check.write(x, 0, 2, 1, 0, 60, 3, 0, 0, 0, 0);
            Check.enact(x, 0);
            Check.lampTrace("MIN " + row[0] + ", MAX " + row[1], x, 0, row[1] + " G", "3 Y", "2 R");
        }
    }

    /** However long it was green before, it has MAX ticks from the first at which something is wanted. */
    private static void againstBeginsWithWhatIsWanted() {
        for (int rest : new int[] {1, 5, 50}) {
            BarrierLights x = new BarrierLights();
            Check.write(x, 0, 0, 1, 10, 5, 3, 0, 0, 0, 0);
            Check.write(x, 0, 2, 1, 10, 5, 3, 0, 0, 0, 2);
            Check.enact(x, 0);
            Check.ticks(x, 4);
            Check.lampTrace("nothing is wanted", x, 2, rest + " G");
            x.detect(0, 0, true);
            Check.lampTrace("5 ticks against it, at the fifth it ends", x, 2, "4 G", "3 Y");
        }
    }

    private static void yellowAndRedToTheTick() {
        for (int yellow = 3; yellow <= 6; yellow++) {
            for (int red = 0; red <= 4; red++) {
                BarrierLights x = new BarrierLights();
                Check.write(x, 0, 4, 1, 0, 9, yellow, red, 0, 0, 0);
                Check.write(x, 0, 6, 1, 0, 9, 3, 0, 0, 0, 0);
                Check.enact(x, 0);
                Check.trace("YELLOW " + yellow + ", RED " + red, x, "1 ----G-R-", yellow + " ----Y-R-",
                    red + " ----R-R-", "2 ----R-G-");
            }
        }
    }

    private static void redOf0IsOverAtOnce() {
        BarrierLights x = Check.started("01234567", 1, 0, 9, 3, 0, 0, 0, 0);
        Check.ticks(x, 4);
        Check.dueText("the last tick of yellow", Check.state(x, 0), "0 1 0 -1 -1 0 4");
        x.tick(1);
        Check.dueText("the next at once", Check.state(x, 0), "0 1 0 -1 -1 1 5");
        BarrierLights y = Check.started("01234567", 1, 0, 9, 3, 1, 0, 0, 0);
        Check.ticks(y, 5);
        Check.dueText("one tick of red", Check.lamps(y, 0), "RRRRRRRR");
        Check.dueText("in which it has its phase", Check.state(y, 0), "0 1 0 -1 -1 0 4");
        y.tick(1);
        Check.dueText("then the next", Check.state(y, 0), "0 1 0 -1 -1 1 5");
    }

    private static void walkAndClearToTheTick() {
        for (int walk : new int[] {1, 2, 19, 20}) {
            for (int clear : new int[] {1, 2, 19, 20}) {
                BarrierLights x = Check.started("02", 1, 0, 60, 3, 0, walk, clear, 0);
                x.press(0, 0);
                int[] signs = new int[walk + clear + 2];
                for (int i = 0; i < walk + clear; i++) {
                    signs[i] = i < walk ? 4 : 8;
                }
                Check.signTrace("WALK " + walk + ", CLEAR " + clear, x, 0, signs);
            }
        }
    }

    /** At the tick at which CLEAR ends the green does, too; not at the one before. */
    private static void greenEndsWithClear() {
        for (int walk : new int[] {1, 20}) {
            for (int clear : new int[] {1, 20}) {
                BarrierLights x = Check.started("02", 1, 0, 1, 3, 0, walk, clear, 0);
                x.press(0, 0);
                Check.lampTrace("WALK " + walk + ", CLEAR " + clear, x, 0, (walk + clear) + " G", "3 Y", "1 R");
            }
        }
    }

    private static void minBeyondClear() {
        for (int min = 3; min <= 6; min++) {
            BarrierLights x = Check.started("02", min, 0, 9, 3, 0, 2, 2, 0);
            x.press(0, 0);
            Check.lampTrace("MIN " + min + ", WALK 2, CLEAR 2", x, 0, Math.max(min, 4) + " G", "3 Y", "1 R");
        }
    }

    /** Ring 1 waits for 6 ticks longer than ring 0; then both begin, and ring 0 is no older. */
    private static void aWaitingRingDoesNotAge() {
        BarrierLights x = new BarrierLights();
        Check.write(x, 0, 0, 1, 0, 9, 6, 3, 0, 0, 0);
        Check.write(x, 0, 4, 1, 0, 9, 3, 0, 0, 0, 0);
        Check.write(x, 0, 2, 2, 0, 9, 3, 0, 0, 0, 0);
        Check.write(x, 0, 6, 2, 0, 9, 3, 0, 0, 0, 0);
        Check.enact(x, 0);
        Check.trace("ring 1 waits", x, "1 G-R-G-R-", "3 Y-R-Y-R-", "1 Y-R-R-R-");
        Check.dueText("state", Check.state(x, 0), "0 1 0 -1 -1 0 -1");
        x.detect(0, 0, true);
        Check.trace("then both begin", x, "2 Y-R-R-R-", "3 R-R-R-R-", "2 R-G-R-G-", "3 R-Y-R-Y-", "1 G-R-G-R-");
    }

    private static void whatIsNextBegins() {
        BarrierLights x = Check.started("0126", 1, 0, 9, 3, 1, 0, 0, 0);
        Check.ticks(x, 5);
        Check.dueText("phase 0 in its red", Check.state(x, 0), "0 1 0 -1 -1 0 -1");
        x.tick(1);
        Check.dueText("phase 1 was next", Check.state(x, 0), "0 1 0 -1 -1 1 -1");
        Check.ticks(x, 4);
        Check.dueText("phase 1 in its red", Check.state(x, 0), "0 1 0 -1 -1 1 -1");
        x.tick(1);
        Check.dueText("nothing was next: the ring waits, and crosses", Check.state(x, 0), "1 1 0 -1 -1 2 6");
    }

    /** The second green in a row of a ring lasts as long as the first. */
    private static void whatBeginsIsZeroOld() {
        BarrierLights x = Check.started("01234567", 5, 0, 9, 4, 2, 0, 0, 0);
        for (int phase = 0; phase < 3; phase++) {
            Check.lampTrace("each in its turn", x, phase, "5 G", "4 Y", "2 R");
        }
        Check.lampTrace("each in its turn", x, 3, "9 G");
    }

    private static void aPhaseThatBeginsLosesItsCalls() {
        BarrierLights x = Check.started("02", 1, 0, 9, 3, 0, 1, 1, 0);
        x.press(0, 0);
        x.press(0, 2);
        Check.dueText("before", Check.signs(x), "3 0 3 0 0 0 0 0");
        x.tick(1);
        Check.dueText("phase 0 begins", Check.signs(x), "4 0 3 0 0 0 0 0");
        Check.ticks(x, 4);
        Check.dueText("the last tick of its yellow", Check.signs(x), "0 0 3 0 0 0 0 0");
        x.tick(1);
        Check.dueText("phase 2 begins", Check.signs(x), "0 0 4 0 0 0 0 0");
    }

    /** Each phase in its turn takes the most that a table allows, the others the least. */
    private static void bothRings() {
        for (int slow = 0; slow < 8; slow++) {
            BarrierLights x = new BarrierLights();
            for (int phase = 0; phase < 8; phase++) {
                Check.write(x, 0, phase, phase == slow ? new int[] {30, 10, 60, 6, 4, 0, 0, 0}
                    : new int[] {1, 0, 1, 3, 0, 0, 0, 0});
            }
            Check.enact(x, 0);
            Check.ticks(x, 4 * (slow % 4));
            Check.lampTrace("phase " + slow, x, slow, "30 G");
            if (slow % 4 != 3) {
                Check.lampTrace("phase " + slow, x, slow, "6 Y", "5 R");
            }
        }
    }

    /** With an input nothing is wanted: AGAINST, 2 by then, is neither more nor 0 behind it. */
    private static void againstStaysWhileNothingIsWanted() {
        for (int with = 0; with <= 8; with += 4) {
            BarrierLights x = Check.started("02", 1, 9, 5, 3, 0, 0, 0, 0);
            x.detect(0, 0, true);
            Check.lampTrace("2 ticks against it", x, 0, "3 G");
            x.target(0, 0, 0);
            x.preempt(0, 0, true);
            Check.lampTrace("with the input", x, 0, with + " G");
            x.preempt(0, 0, false);
            Check.lampTrace("behind " + with + " ticks with the input", x, 0, "2 G", "3 Y");
        }
    }

    /** The GAP is never 0: at the tick at which CLEAR ends AGAINST is 5, as MAX is. */
    private static void againstInWalkAndClearToo() {
        for (int walk = 1; walk <= 4; walk++) {
            BarrierLights x = Check.started("02", 1, 9, 5, 3, 0, walk, 5 - walk, 0);
            x.press(0, 0);
            x.detect(0, 0, true);
            Check.lampTrace("WALK " + walk + ", CLEAR " + (5 - walk), x, 0, "5 G", "3 Y");
        }
    }
}
