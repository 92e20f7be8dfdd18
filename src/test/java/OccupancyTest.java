/** Promise 17. */
public final class OccupancyTest {
    public static void main(String[] args) {
        whatIsNotThere();
        itRisesAndFalls();
        itIsAFloat();
        eachStepIsAFloat();
        Check.end();
    }

    private static void whatIsNotThere() {
        BarrierLights x = new BarrierLights();
        for (int phase = 0; phase < 8; phase++) {
            x.detect(0, phase, true);
            x.detect(1, phase, true);
        }
        x.tick(5);
        for (int wrong : new int[] {-1, 8, Integer.MIN_VALUE, Integer.MAX_VALUE}) {
            Check.due("occupancy of phase " + wrong, x.occupancy(0, wrong), 0f);
        }
        for (int wrong : new int[] {-1, 2, Integer.MIN_VALUE, Integer.MAX_VALUE}) {
            Check.due("occupancy at crossing " + wrong, x.occupancy(wrong, 0), 0f);
        }
    }

    private static void itRisesAndFalls() {
        BarrierLights x = new BarrierLights();
        x.detect(1, 6, true);
        Check.due("before the tick", x.occupancy(1, 6), 0f);
        x.tick(1);
        Check.due("once", x.occupancy(1, 6), 0.125f);
        x.tick(1);
        Check.due("twice", x.occupancy(1, 6), 0.234375f);
        x.detect(1, 6, false);
        Check.due("off, before the tick", x.occupancy(1, 6), 0.234375f);
        x.tick(1);
        Check.due("off", x.occupancy(1, 6), 0.205078125f);
        Check.due("another phase", x.occupancy(1, 5), 0f);
        Check.due("another crossing", x.occupancy(0, 6), 0f);
    }

    private static void itIsAFloat() {
        BarrierLights x = Check.started("02", 1, 0, 1, 3, 0, 0, 0, 0);
        float due = 0f;
        for (int i = 0; i < 115; i++) {
            boolean on = i < 75 || i % 3 == 0;
            x.detect(0, 2, on);
            x.fault(0, 0, i == 50 ? 2 : 0);
            x.tick(1);
            due *= 0.875f;
            if (on) {
                due += 0.125f;
            }
            Check.due("tick " + i, x.occupancy(0, 2), due);
        }
        Check.due("it went on while it flashed", x.crossing(0, 1), 4);
    }

    /** Rounded but once, behind both steps, the last one would be 0.50573117f. */
    private static void eachStepIsAFloat() {
        BarrierLights x = new BarrierLights();
        float due = 0f;
        for (char on : "11011000111".toCharArray()) {
            x.detect(0, 0, on == '1');
            x.tick(1);
            due *= 0.875f;
            due += on == '1' ? 0.125f : 0f;
            Check.due("occupancy", x.occupancy(0, 0), due);
        }
        Check.due("occupancy at last", x.occupancy(0, 0), 0.5057312f);
    }
}
