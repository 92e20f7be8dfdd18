/** Promises 7 and 8: inputs of greater right and their targets. */
public final class InputTest {
    public static void main(String[] args) {
        whatIsNotThereIsRefused();
        whichInputIsInForce();
        itGoesToTheOtherSide();
        itGoesToAnotherPhaseOfThisSide();
        minHolds();
        walkBecomesClear();
        clearHolds();
        ringsWaitForEachOther();
        aTwinThatIsNotUsed();
        aRingWithoutGoalStaysGreen();
        nothingIsWantedThen();
        callsAfterIt();
        noCallsBetweenTwoInputs();
        aPhaseThatIsNextStillBegins();
        Check.end();
    }

    private static void whatIsNotThereIsRefused() {
        BarrierLights x = new BarrierLights();
        for (int input = 0; input < 2; input++) {
            for (int phase = 0; phase < 8; phase++) {
                Check.due("target", x.target(0, input, phase), true);
                Check.due("target", x.target(1, input, phase), true);
            }
            Check.due("preempt on", x.preempt(1, input, true), true);
            Check.due("preempt off", x.preempt(1, input, false), true);
        }
        for (int wrong : new int[] {-1, 2, Integer.MIN_VALUE, Integer.MAX_VALUE}) {
            Check.due("target at crossing " + wrong, x.target(wrong, 0, 0), false);
            Check.due("target of input " + wrong, x.target(0, wrong, 0), false);
            Check.due("preempt at crossing " + wrong, x.preempt(wrong, 0, true), false);
            Check.due("preempt of input " + wrong, x.preempt(0, wrong, true), false);
        }
        for (int wrong : new int[] {-1, 8, Integer.MIN_VALUE, Integer.MAX_VALUE}) {
            Check.due("target at phase " + wrong, x.target(0, 0, wrong), false);
        }
    }

    private static void whichInputIsInForce() {
        BarrierLights x = Check.started("0246", 2, 0, 9, 3, 0, 0, 0, 0);
        x.target(0, 0, 1);
        x.target(0, 1, 2);
        x.preempt(0, 1, true);
        Check.due("input 1 alone", x.crossing(0, 1), 3);
        x.preempt(0, 0, true);
        Check.due("input 0's target isn't used", x.crossing(0, 1), 1);
        x.target(0, 0, 9);
        Check.due("a refused target changes nothing", x.crossing(0, 1), 1);
        x.target(0, 0, 0);
        Check.due("now it is", x.crossing(0, 1), 3);
        Check.trace("input 0 goes first", x, "9 G-R-G-R-");
        x.preempt(0, 0, false);
        Check.trace("then input 1", x, "3 Y-R-Y-R-", "9 R-G-R-G-");
        x.preempt(0, 1, false);
        Check.due("none", x.crossing(0, 1), 1);
        Check.due("the other crossing has its own", x.crossing(1, 1), 0);
    }

    /** All eight phases, crossing 0 resting at 3 and 7, at clock 20. */
    private static BarrierLights resting() {
        BarrierLights x = Check.started("01234567", 2, 0, 9, 3, 0, 0, 0, 0);
        Check.ticks(x, 20);
        Check.dueText("rest", Check.lamps(x, 0), "RRRGRRRG");
        return x;
    }

    private static void itGoesToTheOtherSide() {
        BarrierLights x = resting();
        x.target(0, 0, 1);
        x.preempt(0, 0, true);
        Check.trace("both rings", x, "3 RRRYRRRY");
        Check.due("the side while they aren't waiting", x.crossing(0, 0), 1);
        Check.trace("both rings", x, "9 RGRRRGRR");
        Check.due("the side", x.crossing(0, 0), 0);
    }

    private static void itGoesToAnotherPhaseOfThisSide() {
        BarrierLights x = resting();
        x.target(0, 1, 6);
        x.preempt(0, 1, true);
        Check.trace("back within the side", x, "3 RRRYRRRY", "9 RRGRRRGR");
        x.target(0, 1, 3);
        Check.trace("and forward", x, "3 RRYRRRYR", "9 RRRGRRRG");
    }

    private static void minHolds() {
        BarrierLights x = Check.started("0246", 4, 0, 9, 3, 2, 0, 0, 0);
        x.tick(1);
        x.target(0, 0, 2);
        x.preempt(0, 0, true);
        Check.trace("MIN, YELLOW and RED hold", x, "3 G-R-G-R-", "3 Y-R-Y-R-", "2 R-R-R-R-", "5 R-G-R-G-");
    }

    private static void walkBecomesClear() {
        BarrierLights x = Check.started("02", 1, 0, 9, 3, 0, 5, 2, 0);
        x.press(0, 0);
        x.tick(1);
        Check.due("WALK", x.signs(0, 0), 4);
        x.target(0, 0, 0);
        x.preempt(0, 0, true);
        for (int sign : new int[] {8, 8, 0, 0, 0}) {
            x.tick(1);
            Check.due("signs at clock " + x.tick(0), x.signs(0, 0), sign);
        }
        x.press(0, 0);
        Check.ticks(x, 3);
        Check.due("no WALK begins at its goal", x.signs(0, 0), 2);
        x.press(0, 2);
        x.target(0, 0, 2);
        Check.trace("it goes on to phase 2", x, "3 Y-R-----", "1 R-G-----");
        Check.due("a phase begins with its WALK even so", x.signs(0, 2), 4);
        x.tick(1);
        Check.due("which becomes CLEAR", x.signs(0, 2), 8);
    }

    private static void clearHolds() {
        BarrierLights x = Check.started("02", 1, 0, 9, 3, 0, 5, 4, 0);
        x.press(0, 0);
        x.tick(1);
        x.target(0, 0, 2);
        x.preempt(0, 0, true);
        Check.trace("CLEAR 4 old, then yellow", x, "4 G-R-----", "3 Y-R-----", "2 R-G-----");
    }

    private static void ringsWaitForEachOther() {
        BarrierLights x = new BarrierLights();
        Check.write(x, 0, 0, 1, 0, 9, 3, 0, 0, 0, 0);
        Check.write(x, 0, 4, 3, 0, 9, 6, 0, 0, 0, 0);
        Check.write(x, 0, 2, 1, 0, 9, 3, 0, 0, 0, 0);
        Check.write(x, 0, 7, 1, 0, 9, 3, 0, 0, 0, 0);
        Check.write(x, 0, 6, 1, 0, 9, 3, 0, 0, 0, 0);
        Check.enact(x, 0);
        x.tick(1);
        x.target(0, 0, 6);
        x.preempt(0, 0, true);
        Check.trace("ring 1 is slower", x, "2 G-R-G-RR", "3 Y-R-Y-RR", "3 R-R-Y-RR", "5 R-G-R-GR");
        x.target(0, 0, 0);
        Check.trace("and back", x, "3 R-Y-R-YR");
        x.target(0, 0, 7);
        Check.trace("phase 3 isn't used, so ring 0 waits", x, "6 R-R-R-RG");
        x.target(0, 0, 2);
        Check.trace("a ring that waits begins its goal beside the other", x, "3 R-G-R-RY", "5 R-G-R-GR");
    }

    private static void aTwinThatIsNotUsed() {
        BarrierLights x = Check.started("0247", 2, 0, 9, 3, 0, 0, 0, 0);
        x.target(0, 0, 2);
        x.preempt(0, 0, true);
        Check.trace("ring 1 has no goal", x, "9 R-G-R--R");
        Check.dueText("state", Check.state(x, 0), "1 3 0 -1 -1 2 -1");
        x.preempt(0, 0, false);
        Check.trace("then the other side", x, "3 R-Y-R--R", "2 G-R-G--R", "3 Y-R-Y--R", "9 R-G-R--G");
        BarrierLights y = Check.started("0247", 2, 0, 9, 3, 0, 0, 0, 0);
        y.target(0, 0, 7);
        y.preempt(0, 0, true);
        Check.trace("ring 0 has no goal", y, "9 R-R-R--G");
    }

    private static void aRingWithoutGoalStaysGreen() {
        BarrierLights x = Check.started("0247", 2, 0, 9, 3, 0, 0, 0, 0);
        Check.ticks(x, 20);
        x.target(0, 0, 2);
        x.preempt(0, 0, true);
        Check.trace("on the target's side", x, "9 R-G-R--G");
        x.target(0, 0, 0);
        Check.trace("not on the other", x, "3 R-Y-R--Y", "9 G-R-G--R");
    }

    private static void nothingIsWantedThen() {
        BarrierLights x = new BarrierLights();
        Check.write(x, 0, 0, 1, 9, 5, 3, 0, 0, 0, 0);
        Check.write(x, 0, 2, 1, 0, 5, 3, 0, 0, 0, 0);
        Check.enact(x, 0);
        x.target(0, 0, 0);
        x.preempt(0, 0, true);
        x.detect(0, 0, true);
        Check.trace("AGAINST stays 0 with the input", x, "9 G-R-----");
        x.preempt(0, 0, false);
        Check.trace("and counts from then on", x, "4 G-R-----", "3 Y-R-----");
    }

    private static void callsAfterIt() {
        BarrierLights x = resting();
        x.target(0, 0, 1);
        x.preempt(0, 0, true);
        Check.ticks(x, 6);
        Check.dueText("signs with the input", Check.signs(x), "0 0 0 0 0 0 0 0");
        x.preempt(0, 0, false);
        Check.dueText("signs before the tick", Check.signs(x), "0 0 0 0 0 0 0 0");
        x.tick(1);
        Check.dueText("signs after it", Check.signs(x), "1 0 1 1 1 0 1 1");
        Check.dueText("which is acted upon at once", Check.lamps(x, 0), "RYRRRYRR");
        BarrierLights y = resting();
        y.target(0, 0, 7);
        y.preempt(0, 0, true);
        y.tick(1);
        y.put(0, 0, 0, 0);
        y.target(0, 0, 0);
        y.tick(1);
        Check.dueText("a new target", Check.signs(y), "0 0 0 0 0 0 0 0");
        BarrierLights z = Check.started("0246", 2, 0, 9, 3, 0, 0, 0, 0);
        Check.ticks(z, 20);
        z.target(0, 0, 2);
        z.preempt(0, 0, true);
        z.tick(1);
        z.target(0, 0, 3);
        z.tick(1);
        Check.dueText("a target that isn't used ends it too", Check.signs(z), "1 0 0 0 1 0 0 0");
    }

    private static void noCallsBetweenTwoInputs() {
        BarrierLights x = resting();
        x.target(0, 0, 3);
        x.target(0, 1, 7);
        x.preempt(0, 0, true);
        x.tick(2);
        x.preempt(0, 1, true);
        x.preempt(0, 0, false);
        x.tick(2);
        Check.dueText("from input to input", Check.signs(x), "0 0 0 0 0 0 0 0");
        x.preempt(0, 1, false);
        x.preempt(0, 1, true);
        x.tick(1);
        Check.dueText("off between ticks alone", Check.signs(x), "0 0 0 0 0 0 0 0");
        x.preempt(0, 1, false);
        x.tick(1);
        Check.dueText("at last", Check.signs(x), "1 1 1 0 1 1 1 0");
    }

    private static void aPhaseThatIsNextStillBegins() {
        BarrierLights x = Check.started("01234567", 2, 0, 9, 3, 0, 0, 0, 0);
        Check.trace("toward 1 and 5", x, "2 GRRRGRRR", "1 YRRRYRRR");
        x.target(0, 0, 4);
        x.preempt(0, 0, true);
        Check.trace("they begin, and give way", x, "2 YRRRYRRR", "2 RGRRRGRR", "3 RYRRRYRR", "5 GRRRGRRR");
    }
}
