/** Terms: what is to be done with an input of greater right, at its edges. */
public final class InputEdgesTest {
    private static final int[] QUICK = {1, 0, 9, 3, 0, 0, 0, 0};

    public static void main(String[] args) {
        whichInputCounts();
        aTargetThatIsNotUsed();
        aTargetThatANewTableUses();
        everyTarget();
        doneNotBeforeMin();
        walkBecomesClear0Old();
        doneNotBeforeClearEnds();
        gapAndMaxDoNotCount();
        aPlanDoesNotHoldIt();
        aRingAtItsGoalStays();
        aRingInYellowGoesOn();
        aGoalThatIsNextStillBegins();
        theSideChangesWhenBothWait();
        callsWhenItEnds();
        callsOnceAlone();
        whileItFlashes();
        aRingWithoutGoalClearsToo();
        callsComeAtTheEndOfTheTick();
        aCallBeforeAYellowOrRedPhase();
        aCallInARingThatWaits();
        Check.end();
    }

    private static void expectWay(BarrierLights x, int way, String name) {
        Check.due("the way it goes, " + name, x.crossing(0, 1), way);
    }

    /** Each input off or on, its target none, unused or used. */
    private static void whichInputCounts() {
        int[] targets = {-1, 1, 2};
        for (int i = 0; i < 36; i++) {
            boolean on0 = i % 2 == 1;
            boolean on1 = i / 2 % 2 == 1;
            int target0 = targets[i / 4 % 3];
            int target1 = targets[i / 12];
            BarrierLights x = Check.started("0246", QUICK);
            Check.due("target of input 0", x.target(0, 0, target0), target0 >= 0);
            Check.due("target of input 1", x.target(0, 1, target1), target1 >= 0);
            x.preempt(0, 0, on0);
            x.preempt(0, 1, on1);
            boolean counts = on0 ? target0 == 2 : on1 && target1 == 2;
            String name = on0 + " " + target0 + ", " + on1 + " " + target1;
            expectWay(x, counts ? 3 : 1, name);
            Check.trace(name, x, counts ? "5 R-G-R-G-" : "1 G-R-G-R-");
        }
    }

    private static void aTargetThatIsNotUsed() {
        for (int phase = 0; phase < 8; phase++) {
            BarrierLights x = Check.started("0257", QUICK);
            x.preempt(0, 1, true);
            expectWay(x, 1, "without a target");
            x.target(0, 1, phase);
            boolean used = phase == 0 || phase == 2 || phase == 5 || phase == 7;
            expectWay(x, used ? 3 : 1, "target " + phase);
            x.preempt(0, 1, false);
            expectWay(x, 1, "off");
        }
    }

    /** The target stays while tables come and go. */
    private static void aTargetThatANewTableUses() {
        BarrierLights x = Check.started("0246", QUICK);
        x.target(0, 0, 3);
        x.preempt(0, 0, true);
        expectWay(x, 1, "3 isn't used");
        Check.write(x, 0, 3, QUICK);
        expectWay(x, 1, "3 is written alone");
        Check.dueText("enact", Check.enact(x, 0), "5");
        expectWay(x, 3, "3 is used");
        x.put(0, 3, 0, 0);
        Check.dueText("enact", Check.enact(x, 0), "4");
        expectWay(x, 1, "3 isn't used any more");
    }

    /** From the start, and then from each other phase that it can be at. */
    private static void everyTarget() {
        String[] due = {"GRRRGRRR", "RGRRRGRR", "RRGRRRGR", "RRRGRRRG"};
        for (int from = 0; from < 8; from++) {
            for (int to = 0; to < 8; to++) {
                BarrierLights x = Check.started("01234567", 2, 0, 9, 3, 1, 0, 0, 0);
                x.target(0, 0, from);
                x.preempt(0, 0, true);
                Check.trace("to " + from, x, "3 " + due[from % 4]);
                x.target(0, 0, to);
                boolean stays = from % 4 == to % 4;
                if (!stays) {
                    Check.trace("to " + to, x, "3 " + due[from % 4].replace('G', 'Y'), "1 RRRRRRRR");
                }
                Check.trace("at " + to, x, "3 " + due[to % 4]);
                Check.due("side of " + to, x.crossing(0, 0), to / 2 % 2);
            }
        }
    }

    private static void doneNotBeforeMin() {
        for (int min : new int[] {1, 2, 29, 30}) {
            for (int target : new int[] {1, 2}) {
                BarrierLights x = Check.started("012", min, 0, 60, 3, 0, 0, 0, 0);
                x.tick(1);
                x.target(0, 0, target);
                x.preempt(0, 0, true);
                Check.lampTrace("MIN " + min + ", to " + target, x, 0, (min - 1) + " G", "3 Y", "1 R");
                Check.due("the target", x.lamp(0, target), 4);
            }
        }
    }

    /** It comes at each tick of a WALK of 3, CLEAR being 2. */
    private static void walkBecomesClear0Old() {
        int[][] due = {
            {4, 8, 8, 0, 0, 0, 0},
            {4, 4, 8, 8, 0, 0, 0},
            {4, 4, 4, 8, 8, 0, 0},
            {4, 4, 4, 8, 8, 0, 0},
            {4, 4, 4, 8, 8, 0, 0}};
        for (int before = 1; before <= 5; before++) {
            BarrierLights x = Check.started("02", 1, 0, 60, 3, 0, 3, 2, 0);
            x.press(0, 0);
            x.target(0, 0, 0);
            for (int tick = 1; tick <= 7; tick++) {
                x.preempt(0, 0, tick > before);
                x.tick(1);
                Check.due("an input behind tick " + before + ": signs at tick " + tick, x.signs(0, 0), due[before - 1][tick - 1]);
            }
        }
    }

    private static void doneNotBeforeClearEnds() {
        for (int clear : new int[] {1, 2, 20}) {
            BarrierLights x = Check.started("02", 1, 0, 60, 3, 0, 20, clear, 0);
            x.press(0, 0);
            x.tick(1);
            x.target(0, 0, 2);
            x.preempt(0, 0, true);
            Check.lampTrace("CLEAR " + clear, x, 0, clear + " G", "3 Y", "1 R");
        }
    }

    private static void gapAndMaxDoNotCount() {
        BarrierLights x = Check.started("02", 2, 10, 60, 3, 0, 0, 0, 2);
        x.detect(0, 0, true);
        x.tick(5);
        x.target(0, 0, 2);
        x.preempt(0, 0, true);
        Check.trace("it ends at once", x, "3 Y-R-----", "1 R-G-----");
    }

    private static void aPlanDoesNotHoldIt() {
        BarrierLights x = Check.started("02", QUICK);
        x.plan(0, 60, 0, 59);
        x.message(0, 0, 0);
        Check.trace("held", x, "5 G-R-----");
        x.target(0, 0, 2);
        x.preempt(0, 0, true);
        Check.trace("not with an input", x, "3 Y-R-----", "5 R-G-----");
        expectWay(x, 3, "with both");
    }

    private static void aRingAtItsGoalStays() {
        BarrierLights x = Check.started("01245", QUICK);
        x.target(0, 0, 5);
        x.preempt(0, 0, true);
        Check.trace("at 1 and 5", x, "2 RGR-RG--");
        x.put(0, 1, 0, 0);
        Check.enact(x, 0);
        Check.trace("without 1, at 5 alone", x, "2 R-R-RG--");
        x.target(0, 0, 0);
        Check.trace("0 beside 5, which goes to 4", x, "3 G-R-RY--", "3 G-R-GR--");
        x.target(0, 0, 5);
        Check.trace("5 alone: ring 0 has no goal and stays", x, "3 G-R-YR--", "3 G-R-RG--");
    }

    /** It comes at each tick of yellow and red toward phase 1: phase 1 begins, and gives way at MIN. */
    private static void aRingInYellowGoesOn() {
        for (int wait = 2; wait <= 5; wait++) {
            BarrierLights x = Check.started("012", 1, 0, 9, 3, 1, 0, 0, 0);
            Check.ticks(x, wait);
            x.target(0, 0, 0);
            x.preempt(0, 0, true);
            Check.ticks(x, 5 - wait);
            Check.dueText("the last tick of red", Check.lamps(x, 0), "RRR-----");
            Check.trace("an input behind tick " + wait, x, "1 RGR-----", "3 RYR-----", "1 RRR-----", "3 GRR-----");
        }
    }

    /** The input ends while its goal is next: the goal begins all the same, and only then goes on. */
    private static void aGoalThatIsNextStillBegins() {
        for (int wait = 1; wait <= 3; wait++) {
            BarrierLights x = Check.started("01234567", QUICK);
            x.target(0, 0, 1);
            x.preempt(0, 0, true);
            Check.trace("at 1 and 5", x, "1 RGRRRGRR");
            x.target(0, 0, 0);
            Check.trace("0 and 4 are next", x, wait + " RYRRRYRR");
            x.preempt(0, 0, false);
            Check.trace("they begin", x, (3 - wait) + " RYRRRYRR", "1 GRRRGRRR", "3 YRRRYRRR", "1 RGRRRGRR");
        }
    }

    /** Both ways: the ring of the slow phase keeps the side until it waits, too. */
    private static void theSideChangesWhenBothWait() {
        for (int slow : new int[] {0, 4}) {
            BarrierLights x = new BarrierLights();
            Check.write(x, 0, 4 - slow, 1, 0, 9, 3, 0, 0, 0, 0);
            Check.write(x, 0, slow, 1, 0, 9, 5, 1, 0, 0, 0);
            Check.write(x, 0, 2, QUICK);
            Check.write(x, 0, 6, QUICK);
            Check.enact(x, 0);
            x.tick(1);
            x.target(0, 1, 6);
            x.preempt(0, 1, true);
            String phases = slow == 0 ? "0 -1" : "-1 4";
            Check.ticks(x, 4);
            Check.dueText("one ring waits", Check.state(x, 0), "0 3 0 -1 -1 " + phases);
            Check.ticks(x, 2);
            Check.dueText("the other in its red", Check.state(x, 0), "0 3 0 -1 -1 " + phases);
            x.tick(1);
            Check.dueText("both begin", Check.state(x, 0), "1 3 0 -1 -1 2 6");
        }
    }

    private static void callsWhenItEnds() {
        for (int target = 0; target < 8; target++) {
            BarrierLights x = Check.started("01234567", 9, 0, 9, 3, 0, 0, 0, 0);
            Check.ticks(x, 60);
            Check.dueText("rest", Check.signs(x), "0 0 0 0 0 0 0 0");
            x.target(0, 0, target);
            x.preempt(0, 0, true);
            Check.ticks(x, 5);
            Check.due("at its goal", x.lamp(0, target), 4);
            Check.dueText("no calls", Check.signs(x), "0 0 0 0 0 0 0 0");
            x.preempt(0, 0, false);
            Check.dueText("no calls before the tick", Check.signs(x), "0 0 0 0 0 0 0 0");
            x.tick(1);
            for (int phase = 0; phase < 8; phase++) {
                Check.due("signs of " + phase + " behind target " + target, x.signs(0, phase), phase % 4 == target % 4 ? 0 : 1);
            }
        }
        BarrierLights y = Check.started("0257", 9, 0, 9, 3, 0, 0, 0, 0);
        y.target(0, 0, 2);
        y.preempt(0, 0, true);
        y.tick(1);
        y.preempt(0, 0, false);
        y.tick(1);
        Check.dueText("of used phases alone", Check.signs(y), "1 0 0 0 0 1 0 1");
    }

    private static void callsOnceAlone() {
        BarrierLights x = Check.started("0246", QUICK);
        x.target(0, 0, 2);
        x.preempt(0, 0, true);
        x.tick(1);
        x.preempt(0, 0, false);
        Check.ticks(x, 20);
        Check.dueText("all are served", Check.signs(x), "0 0 0 0 0 0 0 0");
        x.preempt(0, 0, true);
        x.preempt(0, 0, false);
        Check.ticks(x, 2);
        Check.dueText("on between two ticks alone", Check.signs(x), "0 0 0 0 0 0 0 0");
    }

    private static void whileItFlashes() {
        BarrierLights x = Check.started("0246", QUICK);
        x.target(0, 0, 2);
        x.preempt(0, 0, true);
        x.fault(0, 0, 2);
        x.tick(1);
        expectWay(x, 4, "flashing");
        x.tick(3);
        Check.dueText("nothing begins", Check.state(x, 0), "1 4 1 -1 -1 -1 -1");
        x.preempt(0, 0, false);
        x.tick(3);
        Check.dueText("no calls by its end", Check.signs(x), "0 0 0 0 0 0 0 0");
    }

    private static void aRingWithoutGoalClearsToo() {
        BarrierLights x = Check.started("0247", 1, 0, 9, 3, 0, 5, 2, 0);
        Check.ticks(x, 10);
        Check.dueText("rest", Check.lamps(x, 0), "R-G-R--G");
        x.press(0, 7);
        x.tick(1);
        Check.due("WALK", x.signs(0, 7), 4);
        x.target(0, 0, 2);
        x.preempt(0, 0, true);
        Check.signTrace("phase 3 isn't used, so 7 has no goal", x, 7, 8, 8, 0, 0);
    }

    /** The calls behind an input come with (e), so that AGAINST is 1 at the tick after that. */
    private static void callsComeAtTheEndOfTheTick() {
        BarrierLights x = Check.started("02", 1, 9, 5, 3, 0, 0, 0, 0);
        Check.ticks(x, 10);
        x.detect(0, 0, true);
        Check.trace("phase 0, and no calls", x, "3 R-Y-----", "5 G-R-----");
        x.target(0, 0, 0);
        x.preempt(0, 0, true);
        x.tick(1);
        x.preempt(0, 0, false);
        Check.trace("one tick, then 5 against it", x, "5 G-R-----", "3 Y-R-----");
    }

    /** All quick but phase 4, which its detector would keep for ever; MAX 5 ends it. */
    private static BarrierLights kept(String phases) {
        BarrierLights x = new BarrierLights();
        for (char phase : phases.toCharArray()) {
            Check.write(x, 0, phase - '0', 1, 9, 5, 3, 2, 0, 0, 0);
        }
        Check.enact(x, 0);
        Check.ticks(x, 30);
        Check.dueText("no calls", Check.signs(x), "0 0 0 0 0 0 0 0");
        return x;
    }

    /** Ring 0 is on its way from 1 back to 0 when the input ends and 0 has a call: that is against 4 at once. */
    private static void aCallBeforeAYellowOrRedPhase() {
        for (int with = 1; with <= 5; with++) {
            BarrierLights x = kept("01245");
            x.detect(0, 1, true);
            x.tick(1);
            x.detect(0, 1, false);
            Check.ticks(x, 9);
            Check.dueText("rest at 1 and 4", Check.lamps(x, 0), "RGR-GR--");
            x.detect(0, 4, true);
            x.target(0, 0, 0);
            x.preempt(0, 0, true);
            x.tick(with);
            x.preempt(0, 0, false);
            x.detect(0, 0, true);
            // With 5 ticks phase 0 begins at the next one, and then its call is gone before ring 1 is looked at.
            Check.lampTrace("behind " + with + " ticks with the input", x, 4, (with < 5 ? 4 : 5) + " G", "3 Y");
        }
    }

    /** Ring 1 waits, as 4 isn't used: a call of 5 is before none of its phases, and against nobody. */
    private static void aCallInARingThatWaits() {
        BarrierLights x = kept("0125");
        x.target(0, 0, 0);
        x.preempt(0, 0, true);
        x.tick(10);
        Check.dueText("ring 1 waits", Check.state(x, 0), "0 3 0 -1 -1 0 -1");
        x.preempt(0, 0, false);
        x.detect(0, 0, true);
        x.detect(0, 5, true);
        Check.lampTrace("one tick, then 5 against it", x, 0, "5 G", "3 Y");
    }
}
