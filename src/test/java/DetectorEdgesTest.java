/** Terms, (a) of a tick: on-times, when a detector has FAILED, occupancies. */
public final class DetectorEdgesTest {
    private static final int[] ROW = {1, 0, 1, 3, 0, 0, 0, 0};

    public static void main(String[] args) {
        failedFrom60On();
        onTimeIsAtMost100();
        oneTickOffBeginsAnew();
        offWithoutATickChangesNothing();
        itFailsWhileOffAndWhileFlashing();
        occupancyIs0AtFirst();
        occupancyNeverPasses1();
        occupancyRunsEmpty();
        eachDetectorHasItsOwn();
        Check.end();
    }

    private static void expectFailed(BarrierLights x, int crossing, int phase, boolean failed, String name) {
        Check.due("failed, phase " + phase + " of crossing " + crossing + ", " + name,
            (x.signs(crossing, phase) & 16) != 0, failed);
    }

    private static void failedFrom60On() {
        for (int crossing = 0; crossing < 2; crossing++) {
            for (int phase = 0; phase < 8; phase++) {
                BarrierLights x = Check.started("0246", ROW);
                x.detect(crossing, phase, true);
                Check.ticks(x, 58);
                expectFailed(x, crossing, phase, false, "on for 58");
                x.tick(1);
                expectFailed(x, crossing, phase, false, "on for 59");
                x.tick(1);
                expectFailed(x, crossing, phase, true, "on for 60");
                x.tick(1);
                expectFailed(x, crossing, phase, true, "on for 61");
                expectFailed(x, 1 - crossing, phase, false, "the other crossing's");
            }
        }
    }

    /** Whatever it counts to, it has failed at 100 and far behind it, and one tick off ends that. */
    private static void onTimeIsAtMost100() {
        for (int ticks : new int[] {99, 100, 101, 102, 159, 160, 161, 199, 200, 201, 400}) {
            BarrierLights x = new BarrierLights();
            x.detect(0, 5, true);
            Check.ticks(x, ticks);
            expectFailed(x, 0, 5, true, "on for " + ticks);
            x.detect(0, 5, false);
            x.tick(1);
            expectFailed(x, 0, 5, false, "off for a tick behind " + ticks);
            x.detect(0, 5, true);
            Check.ticks(x, 59);
            expectFailed(x, 0, 5, false, "on for 59 again");
            x.tick(1);
            expectFailed(x, 0, 5, true, "on for 60 again");
        }
    }

    private static void oneTickOffBeginsAnew() {
        for (int before : new int[] {1, 58, 59, 60}) {
            BarrierLights x = new BarrierLights();
            x.detect(1, 2, true);
            Check.ticks(x, before);
            x.detect(1, 2, false);
            x.tick(1);
            expectFailed(x, 1, 2, false, "off behind " + before);
            x.detect(1, 2, true);
            Check.ticks(x, 59);
            expectFailed(x, 1, 2, false, "59 behind that");
            x.tick(1);
            expectFailed(x, 1, 2, true, "60 behind that");
        }
    }

    private static void offWithoutATickChangesNothing() {
        BarrierLights x = new BarrierLights();
        x.detect(0, 0, true);
        Check.ticks(x, 59);
        x.detect(0, 0, false);
        x.detect(0, 0, true);
        x.tick(1);
        expectFailed(x, 0, 0, true, "on at each of 60 ticks");
        x.detect(0, 0, false);
        expectFailed(x, 0, 0, true, "off, before the tick");
        x.tick(0);
        expectFailed(x, 0, 0, true, "no tick at all");
        x.tick(1);
        expectFailed(x, 0, 0, false, "off, behind the tick");
    }

    private static void itFailsWhileOffAndWhileFlashing() {
        BarrierLights x = Check.started("0246", ROW);
        x.fault(0, 2, 2);
        x.tick(1);
        Check.due("it flashes", x.crossing(0, 1), 4);
        Check.due("the other is OFF", x.crossing(1, 1), 0);
        x.detect(0, 0, true);
        x.detect(1, 0, true);
        Check.ticks(x, 59);
        Check.due("flashing, 59", x.signs(0, 0), 0);
        Check.due("OFF, 59", x.signs(1, 0), 0);
        x.tick(1);
        Check.due("flashing, 60: failed, but no call", x.signs(0, 0), 16);
        Check.due("OFF, 60: failed, but no call", x.signs(1, 0), 16);
    }

    private static void occupancyIs0AtFirst() {
        BarrierLights x = new BarrierLights();
        for (int phase = 0; phase < 8; phase++) {
            Check.due("at first", x.occupancy(0, phase), 0f);
        }
        x.tick(20);
        Check.due("never on", x.occupancy(0, 0), 0f);
        x.detect(0, 0, true);
        Check.due("on, before a tick", x.occupancy(0, 0), 0f);
        x.tick(1);
        Check.due("on for a tick", x.occupancy(0, 0), 0.125f);
    }

    private static void occupancyNeverPasses1() {
        BarrierLights x = new BarrierLights();
        x.detect(1, 7, true);
        float due = 0f;
        for (int i = 0; i < 200; i++) {
            x.tick(1);
            due = due * 0.875f + 0.125f;
            Check.due("on for " + (i + 1), x.occupancy(1, 7), due);
        }
        Check.due("full", due > 0.99999f && due <= 1f, true);
    }

    /** Down to the least floats, of which 0.875f leaves one as it is. */
    private static void occupancyRunsEmpty() {
        BarrierLights x = new BarrierLights();
        x.detect(1, 7, true);
        x.tick(1);
        x.detect(1, 7, false);
        float due = 0.125f;
        for (int i = 0; i < 75; i++) {
            x.tick(20);
            for (int j = 0; j < 20; j++) {
                due = due * 0.875f;
            }
            Check.due("off for " + (20 * i + 20), x.occupancy(1, 7), due);
        }
        Check.due("almost nothing", due >= 0f && due < 1e-40f, true);
    }

    private static void eachDetectorHasItsOwn() {
        for (int phase = 0; phase < 8; phase++) {
            BarrierLights x = new BarrierLights();
            x.detect(0, phase, true);
            x.tick(1);
            for (int other = 0; other < 8; other++) {
                Check.due("occupancy of " + other, x.occupancy(0, other), other == phase ? 0.125f : 0f);
                Check.due("at the other crossing", x.occupancy(1, other), 0f);
            }
        }
    }
}
