/** Terms: a crossing is OFF until a table is enacted; what STARTS means, wherever it was before. */
public final class StartEdgesTest {
    private static final int[] ROW = {3, 1, 9, 3, 2, 2, 2, 0};

    public static void main(String[] args) {
        offUntilATableIsEnacted();
        offDoesNothingButDetectAndLink();
        startsFromEveryState();
        startsWhileItFlashes();
        startsWithAnInput();
        everyUsedPhaseHasACallAndNoOther();
        onTimesStay();
        occupanciesStay();
        faultsStay();
        inputsAndTargetsStay();
        planAndLocalClockStay();
        silenceAndNumberStay();
        Check.end();
    }

    private static BarrierLights started() {
        return Check.started("0246", ROW);
    }

    private static void offUntilATableIsEnacted() {
        BarrierLights x = new BarrierLights();
        Check.write(x, 0, 0, ROW);
        Check.write(x, 0, 2, ROW);
        x.tick(5);
        Check.dueText("written alone", Check.state(x, 0), "0 0 0 -1 -1 -1 -1");
        x.put(0, 2, 3, 2);
        Check.dueText("a wrong table", Check.enact(x, 0), "IllegalStateException");
        Check.dueText("after a wrong table", Check.state(x, 0), "0 0 0 -1 -1 -1 -1");
        Check.dueText("its lamps", Check.lamps(x, 0), "--------");
        Check.dueText("its signs", Check.signs(x), "0 0 0 0 0 0 0 0");
        x.put(0, 2, 3, 3);
        Check.dueText("a right table", Check.enact(x, 0), "2");
        Check.dueText("after a right table", Check.state(x, 0), "1 1 0 -1 -1 -1 -1");
        Check.dueText("its lamps", Check.lamps(x, 0), "R-R-----");
        Check.dueText("the other one", Check.state(x, 1), "0 0 0 -1 -1 -1 -1");
        x.put(0, 2, 3, 2);
        Check.dueText("a wrong table again", Check.enact(x, 0), "IllegalStateException");
        Check.dueText("it isn't OFF again", Check.state(x, 0), "1 1 0 -1 -1 -1 -1");
    }

    private static void offDoesNothingButDetectAndLink() {
        BarrierLights x = new BarrierLights();
        Check.write(x, 0, 0, 3, 1, 9, 3, 2, 2, 2, 1);
        Check.write(x, 0, 2, 3, 1, 9, 3, 2, 2, 2, 3);
        x.plan(0, 20, 0, 10);
        x.message(0, 0, 0);
        x.detect(0, 0, true);
        x.fault(0, 2, 2);
        x.tick(12);
        Check.dueText("OFF", Check.state(x, 0), "0 0 0 0 11 -1 -1");
        Check.dueText("no calls", Check.signs(x), "0 0 0 0 0 0 0 0");
        Check.due("its detector was seen", x.occupancy(0, 0) > 0.75f, true);
    }

    /** From before the first tick up to the second side's green: enacting again starts it. */
    private static void startsFromEveryState() {
        for (int ticks = 0; ticks <= 20; ticks++) {
            BarrierLights x = started();
            x.press(0, 0);
            x.press(0, 6);
            Check.ticks(x, ticks);
            x.press(0, 2);
            String name = "after " + ticks + " ticks";
            Check.dueText("enact " + name, Check.enact(x, 0), "4");
            Check.dueText("state " + name, Check.state(x, 0), "1 1 0 -1 -1 -1 -1");
            Check.dueText("lamps " + name, Check.lamps(x, 0), "R-R-R-R-");
            Check.dueText("signs " + name, Check.signs(x), "1 0 1 0 1 0 1 0");
            Check.due("clock " + name, x.tick(0), ticks);
            Check.trace(name, x, "3 G-R-G-R-", "3 Y-R-Y-R-", "2 R-R-R-R-", "2 R-G-R-G-");
        }
    }

    private static void startsWhileItFlashes() {
        for (boolean byReset : new boolean[] {true, false}) {
            BarrierLights x = started();
            x.tick(1);
            x.fault(0, 2, 2);
            x.tick(4);
            Check.dueText("it flashes", Check.state(x, 0), "0 4 1 -1 -1 -1 -1");
            x.fault(0, 2, 0);
            if (byReset) {
                Check.due("reset", x.reset(0), true);
            } else {
                Check.dueText("enact", Check.enact(x, 0), "4");
            }
            Check.dueText("it starts", Check.state(x, 0), "1 1 0 -1 -1 -1 -1");
            Check.dueText("its signs", Check.signs(x), "1 0 1 0 1 0 1 0");
            Check.trace("from its start", x, "3 G-R-G-R-", "3 Y-R-Y-R-", "2 R-R-R-R-", "2 R-G-R-G-");
        }
    }

    private static void startsWithAnInput() {
        BarrierLights x = started();
        x.target(0, 1, 0);
        x.preempt(0, 1, true);
        x.tick(2);
        Check.dueText("at its goal", Check.state(x, 0), "0 3 0 -1 -1 0 4");
        Check.enact(x, 0);
        Check.dueText("it starts", Check.state(x, 0), "1 3 0 -1 -1 -1 -1");
        x.tick(1);
        Check.dueText("and the input takes it again", Check.state(x, 0), "0 3 0 -1 -1 0 4");
        x.preempt(0, 1, false);
        Check.enact(x, 0);
        Check.trace("without it", x, "3 G-R-G-R-", "3 Y-R-Y-R-", "2 R-R-R-R-", "2 R-G-R-G-");
        Check.dueText("no calls of the input's end are left", Check.signs(x), "0 0 0 0 0 0 0 0");
    }

    private static void everyUsedPhaseHasACallAndNoOther() {
        for (int unused = 0; unused < 8; unused++) {
            BarrierLights x = Check.started("01234567", ROW);
            Check.dueText("all used", Check.signs(x), "1 1 1 1 1 1 1 1");
            x.put(0, unused, 0, 0);
            x.detect(0, unused, true);
            x.tick(2);
            Check.dueText("enact", Check.enact(x, 0), "7");
            for (int phase = 0; phase < 8; phase++) {
                Check.due("phase " + phase + " without " + unused, x.signs(0, phase), phase == unused ? 0 : 1);
            }
            x.tick(1);
            Check.due("nor later", x.signs(0, unused), 0);
        }
    }

    private static void onTimesStay() {
        for (int before = 58; before <= 60; before++) {
            BarrierLights x = started();
            x.detect(0, 7, true);
            Check.ticks(x, before);
            Check.enact(x, 0);
            Check.due("started at on-time " + before, x.signs(0, 7), before >= 60 ? 16 : 0);
            x.tick(1);
            Check.due("a tick behind " + before, x.signs(0, 7), before + 1 >= 60 ? 16 : 0);
        }
    }

    private static void occupanciesStay() {
        BarrierLights x = started();
        x.detect(0, 3, true);
        x.tick(2);
        x.detect(0, 3, false);
        Check.enact(x, 0);
        Check.due("started", x.occupancy(0, 3), 0.234375f);
        x.tick(1);
        Check.due("a tick behind", x.occupancy(0, 3), 0.205078125f);
    }

    private static void faultsStay() {
        int[] red = {1, 0, 5, 1};
        for (int fault = 0; fault < 4; fault++) {
            BarrierLights x = started();
            x.fault(0, 6, fault);
            Check.enact(x, 0);
            Check.due("fault " + fault + " after a start", x.lamp(0, 6), red[fault]);
        }
        BarrierLights y = started();
        y.fault(0, 2, 2);
        y.tick(1);
        y.reset(0);
        Check.due("fault 2 after a reset", y.lamp(0, 2), 5);
    }

    private static void inputsAndTargetsStay() {
        for (int input = 0; input < 2; input++) {
            BarrierLights x = started();
            x.target(0, input, 6);
            x.preempt(0, input, true);
            Check.enact(x, 0);
            Check.due("the input is still on", x.crossing(0, 1), 3);
            Check.trace("and has its target", x, "5 R-G-R-G-");
            x.preempt(0, input, false);
            Check.enact(x, 0);
            Check.due("it is still off", x.crossing(0, 1), 1);
        }
    }

    private static void planAndLocalClockStay() {
        BarrierLights x = started();
        x.plan(3, 40, 0, 9);
        x.message(0, 2, 3);
        x.tick(18);
        Check.dueText("before", Check.state(x, 0), "1 2 0 3 17 2 6");
        Check.enact(x, 0);
        Check.dueText("started", Check.state(x, 0), "1 2 0 3 17 -1 -1");
        x.tick(1);
        Check.dueText("a tick behind", Check.state(x, 0), "0 2 0 3 18 0 4");
    }

    private static void silenceAndNumberStay() {
        BarrierLights x = started();
        x.plan(3, 40, 0, 9);
        x.message(0, 2, 3);
        x.tick(20);
        x.tick(8);
        Check.enact(x, 0);
        x.tick(1);
        Check.due("silence 29", x.crossing(0, 3), 3);
        Check.enact(x, 0);
        x.tick(1);
        Check.due("silence 30", x.crossing(0, 3), -1);
        Check.due("the number that isn't next", x.message(0, 2, 3), false);
        Check.due("the next number", x.message(0, 3, 3), true);
    }
}
