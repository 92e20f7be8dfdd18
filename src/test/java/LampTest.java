/** Promise 14. */
public final class LampTest {
    public static void main(String[] args) {
        whatIsNotThere();
        asTheRingCommands();
        offAndFlashing();
        faultsChangeThem();
        Check.end();
    }

    private static void whatIsNotThere() {
        BarrierLights x = Check.started("02", 1, 0, 1, 3, 0, 0, 0, 0);
        for (int wrong : new int[] {-1, 8, Integer.MIN_VALUE, Integer.MAX_VALUE}) {
            Check.due("lamp of phase " + wrong, x.lamp(0, wrong), -1);
        }
        for (int wrong : new int[] {-1, 2, Integer.MIN_VALUE, Integer.MAX_VALUE}) {
            Check.due("lamp at crossing " + wrong, x.lamp(wrong, 0), -1);
        }
    }

    private static void asTheRingCommands() {
        BarrierLights x = Check.started("02", 1, 0, 1, 3, 1, 0, 0, 0);
        Check.due("red while the ring waits", x.lamp(0, 0), 1);
        int[] due = {4, 2, 2, 2, 1, 1};
        for (int lamps : due) {
            x.tick(1);
            Check.due("phase 0", x.lamp(0, 0), lamps);
        }
        Check.due("phase 2", x.lamp(0, 2), 4);
        Check.due("a phase that isn't used", x.lamp(0, 1), 0);
    }

    private static void offAndFlashing() {
        BarrierLights x = new BarrierLights();
        Check.write(x, 0, 0, 1, 0, 1, 3, 0, 0, 0, 0);
        x.fault(0, 0, 2);
        Check.dueText("OFF", Check.lamps(x, 0), "--------");
        Check.write(x, 0, 2, 1, 0, 1, 3, 0, 0, 0, 0);
        Check.enact(x, 0);
        x.fault(0, 2, 2);
        x.tick(1);
        Check.dueText("flashing, with faults", Check.lamps(x, 0), "*-*-----");
        Check.dueText("the other is OFF", Check.lamps(x, 1), "--------");
    }

    /** The lamps of phase 0 with each fault, at green, yellow and red. */
    private static void faultsChangeThem() {
        BarrierLights x = Check.started("02", 1, 0, 1, 3, 1, 0, 0, 0);
        faults(x, 1, 0, 5, 1);
        x.tick(1);
        faults(x, 4, 4, 4, 4);
        x.tick(1);
        faults(x, 2, 2, 6, 0);
        x.tick(3);
        faults(x, 1, 0, 5, 1);
        x.fault(0, 1, 2);
        Check.due("a phase that isn't used", x.lamp(0, 1), 0);
    }

    private static void faults(BarrierLights x, int... due) {
        for (int fault = 3; fault >= 0; fault--) {
            x.fault(0, 0, fault);
            Check.due("fault " + fault, x.lamp(0, 0), due[fault]);
        }
    }
}
