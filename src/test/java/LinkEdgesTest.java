/** Terms, (b) of a tick: SILENCE, the LOCAL CLOCK's wrap-around, and how it is put right. */
public final class LinkEdgesTest {
    public static void main(String[] args) {
        silenceAt30();
        aMessageAtEachSilence();
        aRefusedMessageLeavesTheSilence();
        aPlanMadeAnewLeavesTheSilence();
        eachCrossingHasItsOwnSilence();
        silenceWhileItFlashes();
        moduloTheCycle();
        everyFifthTickAlone();
        whatIsRightStays();
        theShorterWay();
        backOver0();
        onOverTheCycle();
        theClockLessTheOffsetBelow0();
        withoutAPlanNoClock();
        numbersModulo8();
        Check.end();
    }

    /** Plan 0 has a right local clock if a message comes at clock 0: it is one less than the clock. */
    private static BarrierLights linked(int cycle, int offset) {
        BarrierLights x = new BarrierLights();
        Check.due("plan", x.plan(0, cycle, offset, 1), true);
        Check.due("message", x.message(0, 0, 0), true);
        return x;
    }

    private static void silenceAt30() {
        BarrierLights x = linked(60, 0);
        Check.ticks(x, 28);
        Check.dueText("silence 28", Check.state(x, 0), "0 0 0 0 27 -1 -1");
        x.tick(1);
        Check.dueText("silence 29", Check.state(x, 0), "0 0 0 0 28 -1 -1");
        x.tick(1);
        Check.dueText("silence 30", Check.state(x, 0), "0 0 0 -1 -1 -1 -1");
        x.tick(1);
        Check.dueText("silence 31", Check.state(x, 0), "0 0 0 -1 -1 -1 -1");
        x.tick(20);
        x.tick(20);
        Check.due("message at last", x.message(0, 1, 0), true);
        Check.dueText("the local clock is 0", Check.state(x, 0), "0 0 0 0 0 -1 -1");
        Check.ticks(x, 29);
        Check.due("silence 29 again", x.crossing(0, 3), 0);
        x.tick(1);
        Check.due("silence 30 again", x.crossing(0, 3), -1);
    }

    private static void aMessageAtEachSilence() {
        for (int silence = 0; silence <= 31; silence++) {
            BarrierLights x = linked(60, 0);
            Check.ticks(x, silence);
            int local = silence == 0 || silence >= 30 ? 0 : silence - 1;
            Check.due("message at silence " + silence, x.message(0, 1, 0), true);
            Check.due("local clock at silence " + silence, x.crossing(0, 4), local);
            Check.ticks(x, 29);
            Check.due("29 ticks behind it", x.crossing(0, 3), 0);
            x.tick(1);
            Check.due("30 ticks behind it", x.crossing(0, 3), -1);
        }
    }

    private static void aRefusedMessageLeavesTheSilence() {
        BarrierLights x = linked(60, 0);
        x.plan(1, 60, 0, 1);
        Check.ticks(x, 29);
        Check.due("the same number", x.message(0, 0, 1), false);
        Check.due("the number after the next", x.message(0, 2, 1), false);
        Check.due("no number", x.message(0, 8, 1), false);
        Check.due("no plan", x.message(0, 1, 2), false);
        Check.dueText("all is as it was", Check.state(x, 0), "0 0 0 0 28 -1 -1");
        x.tick(1);
        Check.due("silence 30", x.crossing(0, 3), -1);
    }

    private static void eachCrossingHasItsOwnSilence() {
        BarrierLights x = linked(60, 0);
        x.tick(10);
        Check.due("message to 1", x.message(1, 7, 0), true);
        Check.ticks(x, 20);
        Check.due("crossing 0 at 30", x.crossing(0, 3), -1);
        Check.due("crossing 1 at 20", x.crossing(1, 3), 0);
        Check.ticks(x, 9);
        Check.due("crossing 1 at 29", x.crossing(1, 3), 0);
        x.tick(1);
        Check.due("crossing 1 at 30", x.crossing(1, 3), -1);
    }

    private static void silenceWhileItFlashes() {
        BarrierLights x = Check.started("02", 2, 0, 9, 3, 0, 0, 0, 0);
        x.plan(0, 25, 0, 1);
        x.message(0, 0, 0);
        x.fault(0, 2, 2);
        Check.ticks(x, 29);
        Check.dueText("flashing, silence 29", Check.state(x, 0), "0 4 1 0 3 -1 -1");
        x.tick(1);
        Check.dueText("flashing, silence 30", Check.state(x, 0), "0 4 1 -1 -1 -1 -1");
    }

    private static void moduloTheCycle() {
        for (int cycle : new int[] {20, 21, 30, 119, 120}) {
            BarrierLights x = linked(cycle, 0);
            int number = 0;
            for (int clock = 1; clock <= cycle - 2; clock++) {
                x.tick(1);
                if (clock % 20 == 0) {
                    number++;
                    x.message(0, number, 0);
                }
            }
            String name = " of " + cycle;
            Check.due("local clock" + name, x.crossing(0, 4), cycle - 3);
            x.tick(1);
            Check.due("one before the last" + name, x.crossing(0, 4), cycle - 2);
            x.tick(1);
            Check.due("the last" + name, x.crossing(0, 4), cycle - 1);
            x.tick(1);
            Check.due("0 again" + name, x.crossing(0, 4), 0);
            x.tick(1);
            Check.due("1" + name, x.crossing(0, 4), 1);
        }
    }

    /** Far from what it should be, it moves by 2 at the clocks 0, 5, 10 .. alone. */
    private static void everyFifthTickAlone() {
        for (int start = 0; start <= 10; start++) {
            BarrierLights x = new BarrierLights();
            x.plan(0, 120, 70, 1);
            x.tick(start);
            x.message(0, 0, 0);
            int local = 0;
            for (int clock = start; clock < start + 25; clock++) {
                x.tick(1);
                local += clock % 5 == 0 ? 2 : 1;
                Check.due("from clock " + start + ", behind the tick at " + clock, x.crossing(0, 4), local);
            }
        }
    }

    private static void whatIsRightStays() {
        for (int offset = 0; offset < 20; offset++) {
            BarrierLights x = new BarrierLights();
            x.plan(0, 20, offset, 1);
            x.tick(offset + 1);
            x.message(0, 0, 0);
            for (int i = 1; i <= 25; i++) {
                x.tick(1);
                Check.due("offset " + offset, x.crossing(0, 4), i % 20);
            }
        }
    }

    /** At clock 0 it becomes 1 and is put right from there: behind by so much, modulo the cycle. */
    private static void theShorterWay() {
        for (int cycle : new int[] {20, 21, 60, 61, 119, 120}) {
            for (int behind = 0; behind < cycle; behind++) {
                int offset = (2 * cycle - 1 - behind) % cycle;
                BarrierLights x = linked(cycle, offset);
                x.tick(1);
                int due = 1;
                if (behind != 0) {
                    due = 2 * behind <= cycle ? 2 : 0;
                }
                Check.due("behind by " + behind + " of " + cycle, x.crossing(0, 4), due);
            }
        }
    }

    private static void backOver0() {
        for (int cycle : new int[] {20, 25}) {
            BarrierLights x = new BarrierLights();
            x.plan(0, cycle, 0, 1);
            x.tick(1);
            x.message(0, 0, 0);
            Check.ticks(x, cycle - 1);
            Check.due("before", x.crossing(0, 4), cycle - 1);
            x.plan(0, cycle, 1, 1);
            x.tick(1);
            Check.due("0, and 1 less", x.crossing(0, 4), cycle - 1);
            x.tick(1);
            Check.due("on from there", x.crossing(0, 4), 0);
        }
    }

    private static void onOverTheCycle() {
        for (int cycle : new int[] {20, 25}) {
            BarrierLights x = new BarrierLights();
            x.plan(0, cycle, 1, 1);
            x.tick(2);
            x.message(0, 0, 0);
            Check.ticks(x, cycle - 2);
            Check.due("before", x.crossing(0, 4), cycle - 2);
            x.plan(0, cycle, 0, 1);
            x.tick(1);
            Check.due("the last, and 1 more", x.crossing(0, 4), 0);
            x.tick(1);
            Check.due("on from there", x.crossing(0, 4), 1);
        }
    }

    /** At clock 0, less 118 of 120, it should be 2; less 119 it should be 1, which it is. */
    private static void theClockLessTheOffsetBelow0() {
        int[][] offsetAndDue = {{119, 1}, {118, 2}, {61, 2}, {60, 2}, {59, 2}, {58, 0}, {1, 0}, {0, 0}};
        for (int[] row : offsetAndDue) {
            BarrierLights x = linked(120, row[0]);
            x.tick(1);
            Check.due("offset " + row[0] + " of 120", x.crossing(0, 4), row[1]);
        }
    }

    private static void withoutAPlanNoClock() {
        BarrierLights x = new BarrierLights();
        x.plan(0, 20, 0, 1);
        x.tick(20);
        Check.dueText("no message came", Check.state(x, 0), "0 0 0 -1 -1 -1 -1");
        x.message(0, 5, 0);
        Check.dueText("it begins with 0", Check.state(x, 0), "0 0 0 0 0 -1 -1");
        x.tick(1);
        Check.due("at clock 20 it should be 0", x.crossing(0, 4), 0);
    }

    private static void numbersModulo8() {
        BarrierLights x = linked(20, 0);
        for (int i = 1; i <= 17; i++) {
            Check.due("one too few", x.message(0, (i + 7) % 8, 0), false);
            Check.due("one too many", x.message(0, (i + 1) % 8, 0), false);
            Check.due("without the modulo", x.message(0, i < 8 ? i + 8 : i, 0), false);
            Check.due("the next", x.message(0, i % 8, 0), true);
        }
    }

    private static void aPlanMadeAnewLeavesTheSilence() {
        BarrierLights x = linked(60, 0);
        Check.ticks(x, 29);
        Check.due("plan made anew", x.plan(0, 60, 0, 1), true);
        Check.due("it has it still", x.crossing(0, 3), 0);
        x.tick(1);
        Check.due("silence 30", x.crossing(0, 3), -1);
    }
}
