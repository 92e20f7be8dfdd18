/** Promise 13, and what is to be done without an input of greater right. */
public final class TickTest {
    public static void main(String[] args) {
        theClock();
        aWholeLife();
        throughBothSides();
        redOfNoTicks();
        maxCountsWhileSomethingIsWanted();
        aCallBeforeThePhaseNeedsTheBarrier();
        aCallBehindThePhaseIsForward();
        aRingSkipsPhasesWithoutCalls();
        aRingWithoutPhasesWaits();
        ringsLeaveTogether();
        ringZeroGoesFirst();
        recalls();
        bothCrossingsTick();
        Check.end();
    }

    private static void theClock() {
        BarrierLights x = new BarrierLights();
        Check.dueText("tick(0)", Check.tick(x, 0), "0");
        Check.dueText("tick(20)", Check.tick(x, 20), "20");
        Check.dueText("tick(1)", Check.tick(x, 1), "21");
        for (int wrong : new int[] {-1, 21, Integer.MIN_VALUE, Integer.MAX_VALUE}) {
            Check.dueText("tick(" + wrong + ")", Check.tick(x, wrong), "IllegalArgumentException");
        }
        Check.dueText("tick(0)", Check.tick(x, 0), "21");
        BarrierLights one = Check.started("01234567", 4, 2, 10, 3, 1, 0, 0, 1);
        BarrierLights many = Check.started("01234567", 4, 2, 10, 3, 1, 0, 0, 1);
        for (int n = 0; n <= 20; n++) {
            Check.ticks(one, n);
            many.tick(n);
            Check.dueText("n ticks at once", Check.lamps(many, 0), Check.lamps(one, 0));
        }
    }

    /** The last of 512 calls is answered as the first. */
    private static void aWholeLife() {
        BarrierLights x = new BarrierLights();
        for (int call = 1; call <= 512; call++) {
            Check.due("call " + call, x.tick(20), 20 * call);
        }
        BarrierLights y = new BarrierLights();
        y.plan(0, 119, 118, 1);
        int number = 0;
        for (int clock = 20; clock <= 20 * 254; clock += 20) {
            y.tick(20);
            y.message(0, number, 0);
            number = (number + 1) % 8;
        }
        Check.due("the local clock is what the clock less the offset is", y.crossing(0, 4), (5079 - 118) % 119);
    }

    private static void throughBothSides() {
        BarrierLights x = Check.started("01234567", 4, 2, 10, 3, 1, 0, 0, 0);
        Check.trace("once through", x, "4 GRRRGRRR", "3 YRRRYRRR", "1 RRRRRRRR", "4 RGRRRGRR", "3 RYRRRYRR",
            "1 RRRRRRRR", "4 RRGRRRGR", "3 RRYRRRYR", "1 RRRRRRRR", "20 RRRGRRRG");
    }

    private static void redOfNoTicks() {
        BarrierLights x = Check.started("01234567", 1, 0, 1, 3, 0, 0, 0, 0);
        Check.trace("yellow, then the next at once", x, "1 GRRRGRRR", "3 YRRRYRRR", "1 RGRRRGRR", "3 RYRRRYRR",
            "1 RRGRRRGR", "3 RRYRRRYR", "20 RRRGRRRG");
    }

    private static void maxCountsWhileSomethingIsWanted() {
        BarrierLights x = Check.started("02", 1, 3, 5, 3, 0, 0, 0, 0);
        Check.trace("first round", x, "1 G-R-----", "3 Y-R-----", "1 R-G-----");
        x.detect(0, 0, true);
        Check.trace("back, and nothing is wanted", x, "3 R-Y-----", "7 G-R-----");
        x.detect(0, 2, true);
        Check.trace("from now on", x, "4 G-R-----", "3 Y-R-----");
    }

    private static void aCallBeforeThePhaseNeedsTheBarrier() {
        BarrierLights x = Check.started("012", 1, 0, 5, 3, 0, 0, 0, 0);
        Check.ticks(x, 20);
        x.detect(0, 1, true);
        x.tick(1);
        x.detect(0, 1, false);
        Check.trace("phase 1 by its call", x, "2 RRY-----", "5 RGR-----");
        Check.due("side", x.crossing(0, 0), 0);
        x.detect(0, 0, true);
        x.tick(1);
        x.detect(0, 0, false);
        Check.trace("phase 0 without the other side", x, "2 RYR-----", "9 GRR-----");
        Check.due("side", x.crossing(0, 0), 0);
    }

    private static void aCallBehindThePhaseIsForward() {
        BarrierLights x = Check.started("01245", 1, 0, 5, 3, 0, 0, 0, 0);
        Check.ticks(x, 20);
        x.detect(0, 0, true);
        x.tick(1);
        x.detect(0, 0, false);
        Check.trace("phase 0, and 4 beside it", x, "2 RRY-RR--", "5 GRR-GR--");
        x.detect(0, 5, true);
        x.tick(1);
        x.detect(0, 5, false);
        Check.trace("ring 1 alone goes forward", x, "2 GRR-YR--", "9 GRR-RG--");
        x.detect(0, 4, true);
        x.tick(1);
        x.detect(0, 4, false);
        Check.trace("a call before it takes both rings", x, "2 YRR-RY--", "9 GRR-GR--");
    }

    private static void aRingSkipsPhasesWithoutCalls() {
        BarrierLights x = Check.started("01234567", 1, 0, 5, 3, 0, 0, 0, 0);
        Check.ticks(x, 20);
        x.detect(0, 5, true);
        x.tick(1);
        x.detect(0, 5, false);
        Check.trace("5 by its call, 0 as the first of its ring", x, "2 RRRYRRRY", "9 GRRRRGRR");
    }

    private static void aRingWithoutPhasesWaits() {
        BarrierLights x = Check.started("0126", 2, 0, 5, 3, 0, 0, 0, 0);
        Check.trace("ring 1 has none on side 0", x, "2 GRR---R-", "3 YRR---R-", "2 RGR---R-", "3 RYR---R-", "9 RRG---G-");
        BarrierLights y = Check.started("06", 2, 0, 5, 3, 1, 0, 0, 0);
        y.tick(1);
        Check.dueText("state", Check.state(y, 0), "0 1 0 -1 -1 0 -1");
        Check.trace("one ring a side", y, "1 G-----R-", "3 Y-----R-", "1 R-----R-", "9 R-----G-");
        Check.dueText("state", Check.state(y, 0), "1 1 0 -1 -1 -1 6");
    }

    private static void ringsLeaveTogether() {
        BarrierLights x = new BarrierLights();
        Check.write(x, 0, 0, 2, 0, 9, 3, 0, 0, 0, 0);
        Check.write(x, 0, 4, 7, 0, 9, 5, 2, 0, 0, 0);
        Check.write(x, 0, 2, 1, 0, 9, 3, 0, 0, 0, 0);
        Check.enact(x, 0);
        Check.trace("the slower one tells when", x, "7 G-R-G---", "3 Y-R-Y---", "2 R-R-Y---", "2 R-R-R---", "9 R-G-R---");
    }

    /** Ring 1 counts AGAINST already at the tick at which ring 0 begins a phase behind one with a call. */
    private static void ringZeroGoesFirst() {
        BarrierLights x = new BarrierLights();
        Check.write(x, 0, 0, 1, 0, 1, 3, 0, 0, 0, 1);
        Check.write(x, 0, 1, 1, 0, 1, 3, 0, 0, 0, 0);
        Check.write(x, 0, 2, 1, 0, 1, 3, 0, 0, 0, 0);
        Check.write(x, 0, 4, 1, 9, 3, 3, 0, 0, 0, 0);
        Check.enact(x, 0);
        Check.ticks(x, 20);
        Check.dueText("rest", Check.lamps(x, 0), "GRR-G---");
        x.detect(0, 1, true);
        x.detect(0, 4, true);
        x.tick(1);
        x.detect(0, 1, false);
        Check.trace("two ticks, then MAX 3 is reached", x, "2 YRR-G---", "2 RGR-G---", "3 RYR-Y---");
    }

    private static void recalls() {
        BarrierLights x = new BarrierLights();
        Check.write(x, 0, 0, 1, 2, 4, 3, 0, 0, 0, 2);
        Check.write(x, 0, 2, 1, 0, 1, 3, 0, 0, 0, 0);
        Check.enact(x, 0);
        Check.trace("RECALL 2 goes to MAX, and calls", x, "4 G-R-----", "3 Y-R-----", "1 R-G-----", "3 R-Y-----",
            "20 G-R-----");
        BarrierLights y = new BarrierLights();
        Check.write(y, 0, 0, 2, 5, 9, 3, 0, 0, 0, 1);
        Check.write(y, 0, 2, 1, 0, 1, 3, 0, 0, 0, 1);
        Check.enact(y, 0);
        Check.trace("RECALL 1 calls, and doesn't extend", y, "2 G-R-----", "3 Y-R-----", "1 R-G-----", "3 R-Y-----",
            "2 G-R-----", "3 Y-R-----", "1 R-G-----");
        BarrierLights z = Check.started("0246", 1, 0, 1, 3, 0, 0, 0, 0);
        Check.trace("RECALL 0 rests", z, "1 G-R-G-R-", "3 Y-R-Y-R-", "40 R-G-R-G-");
    }

    private static void bothCrossingsTick() {
        BarrierLights x = Check.started("0246", 1, 0, 1, 3, 0, 0, 0, 0);
        Check.write(x, 1, 1, 3, 0, 9, 4, 0, 0, 0, 0);
        Check.write(x, 1, 3, 3, 0, 9, 4, 0, 0, 0, 0);
        Check.dueText("enact(1)", Check.enact(x, 1), "2");
        x.tick(4);
        Check.dueText("crossing 0", Check.lamps(x, 0), "Y-R-Y-R-");
        Check.dueText("crossing 1", Check.lamps(x, 1), "-Y-R----");
        x.tick(4);
        Check.dueText("crossing 0", Check.lamps(x, 0), "R-G-R-G-");
        Check.dueText("crossing 1", Check.lamps(x, 1), "-R-G----");
    }
}
