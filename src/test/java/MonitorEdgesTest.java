/** Terms: the LAMPS with each FAULT, and THE MONITOR at the edges of what it looks for. */
public final class MonitorEdgesTest {
    public static void main(String[] args) {
        lampsWithEachFault();
        lampsWhileOffOrFlashing();
        conflictOfEachPair();
        conflictWithYellow();
        onePhaseAloneIsNoConflict();
        unusedPhasesAreNotLookedAt();
        darkForTheSecondTickInARow();
        darkWithAGapBetween();
        darkYellow();
        shortFor0To3Ticks();
        yellowCountsSinceTheLastGreen();
        greenThatOnlyBurned();
        theFirstInOrder();
        faultsBetweenTwoTicks();
        beginsAnewWithAStart();
        ringsWaitAndNoCalls();
        theOtherCrossingGoesOn();
        yellowWithADarkTickBetween();
        aFaultOfAPhaseThatIsNotUsed();
        whatIsTakenWhileItFlashes();
        Check.end();
    }

    private static void expectFaults(BarrierLights x, int phase, String name, int... due) {
        for (int fault = 3; fault >= 0; fault--) {
            x.fault(0, phase, fault);
            Check.due("phase " + phase + ", " + name + ", fault " + fault, x.lamp(0, phase), due[fault]);
        }
    }

    /** Red while nothing began, green at its goal, yellow on its way to another. */
    private static void lampsWithEachFault() {
        for (int phase = 0; phase < 8; phase++) {
            BarrierLights x = Check.started("01234567", 1, 0, 9, 3, 1, 0, 0, 0);
            expectFaults(x, phase, "red", 1, 0, 5, 1);
            x.target(0, 0, phase);
            x.preempt(0, 0, true);
            x.tick(1);
            expectFaults(x, phase, "green", 4, 4, 4, 4);
            x.target(0, 0, (phase + 1) % 8);
            x.tick(1);
            expectFaults(x, phase, "yellow", 2, 2, 6, 0);
            Check.ticks(x, 3);
            expectFaults(x, phase, "the red behind it", 1, 0, 5, 1);
        }
    }

    private static void lampsWhileOffOrFlashing() {
        for (int phase = 0; phase < 8; phase++) {
            BarrierLights x = new BarrierLights();
            for (int used : new int[] {1, 2, 5, 7}) {
                Check.write(x, 0, used, 1, 0, 9, 3, 1, 0, 0, 0);
            }
            expectFaults(x, phase, "OFF", 0, 0, 0, 0);
            Check.enact(x, 0);
            x.fault(0, 2, 2);
            x.tick(1);
            int due = phase == 1 || phase == 2 || phase == 5 || phase == 7 ? 8 : 0;
            expectFaults(x, phase, "flashing", due, due, due, due);
        }
    }

    /** At clock 5 all lamps are red, for 4 ticks. */
    private static BarrierLights allRed() {
        BarrierLights x = Check.started("01234567", 1, 0, 9, 3, 4, 0, 0, 0);
        x.tick(5);
        Check.dueText("all are red", Check.lamps(x, 0), "RRRRRRRR");
        return x;
    }

    private static boolean goTogether(int one, int other) {
        String pair = "" + Math.min(one, other) + Math.max(one, other);
        return "04 05 14 15 26 27 36 37".contains(pair);
    }

    private static void conflictOfEachPair() {
        for (int one = 0; one < 8; one++) {
            for (int other = one + 1; other < 8; other++) {
                BarrierLights x = allRed();
                x.fault(0, one, 2);
                x.fault(0, other, 2);
                x.tick(1);
                Check.due(one + " and " + other + " burn", x.crossing(0, 2), goTogether(one, other) ? 0 : 1);
            }
        }
    }

    /** One is yellow on its way to the other side, the other burns green. */
    private static void conflictWithYellow() {
        for (int one = 0; one < 8; one++) {
            for (int other = 0; other < 8; other++) {
                if (one != other) {
                    BarrierLights x = Check.started("01234567", 1, 0, 9, 3, 1, 0, 0, 0);
                    x.target(0, 0, one);
                    x.preempt(0, 0, true);
                    x.tick(1);
                    x.target(0, 0, (one + 2) % 4);
                    x.tick(1);
                    Check.due(one + " is yellow", x.lamp(0, one), 2);
                    x.fault(0, other, 2);
                    x.tick(1);
                    boolean beside = other == (one + 4) % 8;
                    Check.due(other + " burns beside yellow " + one, x.crossing(0, 2), beside ? 0 : 1);
                }
            }
        }
    }

    private static void onePhaseAloneIsNoConflict() {
        for (int phase = 0; phase < 8; phase++) {
            BarrierLights x = allRed();
            x.fault(0, phase, 2);
            x.tick(1);
            Check.due(phase + " burns alone", x.crossing(0, 2), 0);
            Check.due("its lamps", x.lamp(0, phase), 5);
        }
    }

    private static void unusedPhasesAreNotLookedAt() {
        BarrierLights x = Check.started("06", 1, 0, 9, 3, 1, 0, 0, 0);
        for (int phase = 1; phase < 8; phase++) {
            if (phase != 6) {
                x.fault(0, phase, 1 + phase % 2);
            }
        }
        Check.trace("neither dark nor in conflict", x, "1 G-----R-", "3 Y-----R-", "1 R-----R-", "9 R-----G-");
        Check.due("why", x.crossing(0, 2), 0);
    }

    private static void darkForTheSecondTickInARow() {
        for (int phase = 0; phase < 8; phase++) {
            BarrierLights x = allRed();
            x.fault(0, phase, 1);
            x.tick(1);
            Check.due("dark for 1 tick", x.crossing(0, 2), 0);
            Check.due("its lamps", x.lamp(0, phase), 0);
            x.tick(1);
            Check.due("dark for 2 ticks", x.crossing(0, 2), 2);
        }
    }

    private static void darkWithAGapBetween() {
        BarrierLights x = Check.started("02", 30, 0, 60, 3, 1, 0, 0, 0);
        for (int i = 0; i < 10; i++) {
            x.fault(0, 2, i % 2 == 0 ? 1 : 0);
            x.tick(1);
            Check.due("dark at every other tick", x.crossing(0, 2), 0);
        }
        BarrierLights y = allRed();
        y.fault(0, 1, 1);
        y.tick(1);
        y.fault(0, 1, 0);
        y.fault(0, 2, 1);
        y.tick(1);
        Check.due("two phases, one tick each", y.crossing(0, 2), 0);
        y.tick(1);
        Check.due("the second for the second tick", y.crossing(0, 2), 2);
    }

    /** Behind 3 ticks of yellow it goes dark: nothing at the first tick, at the second DARK. */
    private static void darkYellow() {
        BarrierLights x = Check.started("02", 1, 0, 9, 6, 1, 0, 0, 0);
        Check.trace("yellow", x, "1 G-R-----", "3 Y-R-----");
        x.fault(0, 0, 3);
        Check.trace("dark", x, "1 --R-----", "1 *-*-----");
        Check.due("why", x.crossing(0, 2), 2);
        BarrierLights y = Check.started("02", 1, 0, 9, 4, 1, 0, 0, 0);
        Check.trace("yellow", y, "1 G-R-----", "3 Y-R-----");
        y.fault(0, 0, 3);
        Check.trace("dark for the fourth tick alone", y, "1 --R-----", "1 R-R-----", "3 R-G-----");
    }

    private static void shortFor0To3Ticks() {
        for (int phase = 0; phase < 8; phase++) {
            for (int shown = 0; shown <= 4; shown++) {
                BarrierLights x = Check.started("01234567", 1, 0, 9, 6, 1, 0, 0, 0);
                x.target(0, 0, phase);
                x.preempt(0, 0, true);
                x.tick(1);
                x.target(0, 0, (phase + 1) % 8);
                Check.ticks(x, shown);
                Check.due("lamps of " + phase, x.lamp(0, phase), shown == 0 ? 4 : 2);
                x.fault(0, phase, 3);
                x.tick(1);
                Check.due(phase + " yellow for " + shown, x.crossing(0, 2), shown < 3 ? 3 : 0);
            }
        }
    }

    /** YELLOW 6: green burns once more behind some ticks, and the count begins anew. */
    private static void yellowCountsSinceTheLastGreen() {
        for (int before = 0; before <= 4; before++) {
            BarrierLights x = Check.started("02", 1, 0, 9, 6, 1, 0, 0, 0);
            Check.ticks(x, 1 + before);
            x.fault(0, 0, 2);
            x.tick(1);
            Check.due("yellow and green", x.lamp(0, 0), 6);
            x.fault(0, 0, 0);
            Check.ticks(x, 5 - before);
            Check.due("the last tick of yellow", x.lamp(0, 0), 2);
            x.tick(1);
            Check.due("yellow for " + (5 - before) + " since", x.crossing(0, 2), 5 - before < 3 ? 3 : 0);
        }
    }

    private static void greenThatOnlyBurned() {
        BarrierLights x = allRed();
        x.fault(0, 7, 2);
        x.tick(1);
        Check.due("it burns", x.crossing(0, 2), 0);
        x.fault(0, 7, 0);
        x.tick(1);
        Check.due("it stops without yellow", x.crossing(0, 2), 3);
    }

    /** All three at one tick, then without each of the first. */
    private static void theFirstInOrder() {
        for (int first = 1; first <= 3; first++) {
            BarrierLights x = allRed();
            x.fault(0, 0, 2);
            x.fault(0, 1, first <= 2 ? 1 : 0);
            x.tick(1);
            x.fault(0, 0, 0);
            x.fault(0, 2, first == 1 ? 2 : 0);
            x.fault(0, 4, first == 1 ? 2 : 0);
            x.tick(1);
            Check.due("the first of those from " + first + " on", x.crossing(0, 2), first);
        }
    }

    private static void faultsBetweenTwoTicks() {
        BarrierLights x = allRed();
        x.tick(1);
        for (int phase = 0; phase < 8; phase++) {
            x.fault(0, phase, 2);
        }
        Check.dueText("all burn", Check.lamps(x, 0), "55555555");
        for (int phase = 0; phase < 8; phase++) {
            x.fault(0, phase, 0);
        }
        x.tick(1);
        Check.due("the monitor looks at ticks alone", x.crossing(0, 2), 0);
        x.fault(0, 0, 2);
        x.fault(0, 1, 2);
        x.tick(0);
        Check.due("no tick at all", x.crossing(0, 2), 0);
    }

    private static void beginsAnewWithAStart() {
        BarrierLights x = allRed();
        x.fault(0, 6, 1);
        x.tick(1);
        Check.enact(x, 0);
        x.tick(1);
        Check.due("dark before and after a start", x.crossing(0, 2), 0);
        x.tick(1);
        Check.due("dark for the second tick behind it", x.crossing(0, 2), 2);
        x.reset(0);
        x.tick(1);
        Check.due("dark for the first tick behind a reset", x.crossing(0, 2), 0);
        x.tick(1);
        Check.due("and for the second", x.crossing(0, 2), 2);
        BarrierLights y = Check.started("02", 1, 0, 9, 3, 1, 0, 0, 0);
        y.tick(10);
        Check.dueText("green", Check.lamps(y, 0), "R-G-----");
        Check.enact(y, 0);
        y.tick(1);
        Check.due("green before a start, red behind it", y.crossing(0, 2), 0);
    }

    private static void ringsWaitAndNoCalls() {
        for (int ticks = 1; ticks <= 9; ticks++) {
            BarrierLights x = Check.started("0246", 1, 0, 9, 3, 1, 5, 5, 1);
            x.press(0, 0);
            x.press(0, 6);
            Check.ticks(x, ticks);
            x.fault(0, 0, 2);
            x.fault(0, 2, 2);
            x.tick(1);
            Check.dueText("behind " + ticks, Check.state(x, 0), "0 4 1 -1 -1 -1 -1");
            Check.dueText("signs", Check.signs(x), "0 0 0 0 0 0 0 0");
        }
    }

    private static void theOtherCrossingGoesOn() {
        BarrierLights x = Check.started("02", 1, 0, 9, 3, 1, 0, 0, 0);
        Check.write(x, 1, 0, 1, 0, 9, 3, 1, 0, 0, 0);
        Check.write(x, 1, 2, 1, 0, 9, 3, 1, 0, 0, 0);
        Check.enact(x, 1);
        x.fault(1, 2, 2);
        x.tick(1);
        Check.dueText("crossing 0", Check.state(x, 0), "0 1 0 -1 -1 0 -1");
        Check.dueText("crossing 1", Check.state(x, 1), "0 4 1 -1 -1 -1 -1");
        Check.trace("crossing 0", x, "3 Y-R-----", "1 R-R-----", "3 R-G-----");
    }

    /** YELLOW 5: behind 3 ticks of yellow one is dark, then one is yellow: 4 since it last showed green. */
    private static void yellowWithADarkTickBetween() {
        BarrierLights x = Check.started("02", 1, 0, 9, 5, 1, 0, 0, 0);
        Check.trace("yellow", x, "1 G-R-----", "3 Y-R-----");
        x.fault(0, 0, 3);
        Check.trace("dark", x, "1 --R-----");
        x.fault(0, 0, 0);
        Check.trace("yellow again", x, "1 Y-R-----", "1 R-R-----", "3 R-G-----");
    }

    private static void aFaultOfAPhaseThatIsNotUsed() {
        BarrierLights x = Check.started("02", 1, 0, 9, 3, 1, 0, 0, 0);
        Check.due("fault of phase 7", x.fault(0, 7, 2), true);
        Check.dueText("it shows nothing", Check.lamps(x, 0), "R-R-----");
        Check.write(x, 0, 7, 1, 0, 9, 3, 1, 0, 0, 0);
        Check.enact(x, 0);
        Check.dueText("with the next table it does", Check.lamps(x, 0), "R-R----5");
    }

    /** Only a button is refused then; all the rest is there when it starts again. */
    private static void whatIsTakenWhileItFlashes() {
        BarrierLights x = Check.started("02", 1, 0, 9, 3, 1, 1, 1, 0);
        x.fault(0, 2, 2);
        x.tick(1);
        Check.due("it flashes", x.crossing(0, 1), 4);
        Check.due("press", x.press(0, 2), false);
        Check.due("put", x.put(0, 2, 0, 2), true);
        Check.due("detect", x.detect(0, 0, true), true);
        Check.due("plan", x.plan(1, 20, 0, 5), true);
        Check.due("message", x.message(0, 4, 1), true);
        Check.due("target", x.target(0, 1, 2), true);
        Check.due("preempt", x.preempt(0, 1, true), true);
        Check.due("fault", x.fault(0, 2, 0), true);
        Check.due("reset of the other", x.reset(1), false);
        Check.dueText("it flashes still", Check.state(x, 0), "0 4 1 1 0 -1 -1");
        Check.due("reset", x.reset(0), true);
        Check.dueText("with an input", Check.state(x, 0), "1 3 0 1 0 -1 -1");
        Check.trace("its target", x, "1 R-G-----");
        x.preempt(0, 1, false);
        Check.due("by a plan", x.crossing(0, 1), 2);
        Check.due("occupancy", x.occupancy(0, 0), 0.125f);
    }
}
