/** The calls that README.md shows, with the answers it tells. */
public final class ReadmeTest {
    public static void main(String[] args) {
        BarrierLights x = new BarrierLights();
        int[] row = {4, 2, 10, 3, 1, 5, 2, 0};
        for (int phase = 0; phase < 8; phase += 2) {
            Check.write(x, 0, phase, row);
        }
        Check.dueText("enact(0)", Check.enact(x, 0), "4");
        Check.due("tick(1)", x.tick(1), 1);
        Check.due("lamp(0, 0)", x.lamp(0, 0), 4);
        Check.due("lamp(0, 4)", x.lamp(0, 4), 4);
        Check.due("lamp(0, 2)", x.lamp(0, 2), 1);
        theOtherSide(x);
        aPlan(x);
        anInput(x);
        aFault(x);
        Check.end();
    }

    private static void theOtherSide(BarrierLights x) {
        Check.due("press(0, 2)", x.press(0, 2), true);
        Check.due("signs(0, 2)", x.signs(0, 2), 3);
        Check.due("tick(8)", x.tick(8), 9);
        Check.due("crossing(0, 0)", x.crossing(0, 0), 1);
        Check.due("signs(0, 2) on its side", x.signs(0, 2), 4);
    }

    private static void aPlan(BarrierLights x) {
        Check.due("plan(0, 60, 10, 30)", x.plan(0, 60, 10, 30), true);
        Check.due("message(0, 7, 0)", x.message(0, 7, 0), true);
        Check.due("crossing(0, 1)", x.crossing(0, 1), 2);
    }

    private static void anInput(BarrierLights x) {
        Check.due("target(0, 0, 4)", x.target(0, 0, 4), true);
        Check.due("preempt(0, 0, true)", x.preempt(0, 0, true), true);
        Check.due("tick(20)", x.tick(20), 29);
        Check.due("lamp(0, 4)", x.lamp(0, 4), 4);
    }

    private static void aFault(BarrierLights x) {
        Check.due("fault(0, 2, 1)", x.fault(0, 2, 1), true);
        Check.due("tick(2)", x.tick(2), 31);
        Check.due("crossing(0, 2)", x.crossing(0, 2), 2);
        Check.due("lamp(0, 2)", x.lamp(0, 2), 8);
        Check.due("fault(0, 2, 0)", x.fault(0, 2, 0), true);
        Check.due("reset(0)", x.reset(0), true);
        Check.due("crossing(0, 2) behind a reset", x.crossing(0, 2), 0);
    }
}
