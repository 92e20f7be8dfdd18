/** Promise 2. */
public final class PutTest {
    private static final int LEAST = Integer.MIN_VALUE;
    private static final int MOST = Integer.MAX_VALUE;

    public static void main(String[] args) {
        everyEntryIsTaken();
        whatIsNotThereIsRefused();
        aRefusedEntryChangesNothing();
        crossingsHaveTheirOwnTables();
        Check.end();
    }

    private static void everyEntryIsTaken() {
        BarrierLights x = new BarrierLights();
        for (int crossing = 0; crossing < 2; crossing++) {
            for (int phase = 0; phase < 8; phase++) {
                for (int what = 0; what < 8; what++) {
                    Check.due("put of 0", x.put(crossing, phase, what, 0), true);
                    Check.due("put of 99", x.put(crossing, phase, what, 99), true);
                }
            }
        }
    }

    private static void whatIsNotThereIsRefused() {
        BarrierLights x = new BarrierLights();
        for (int wrong : new int[] {-1, 8, LEAST, MOST}) {
            Check.due("put at phase " + wrong, x.put(0, wrong, 0, 1), false);
            Check.due("put at what " + wrong, x.put(0, 0, wrong, 1), false);
        }
        for (int wrong : new int[] {-1, 2, LEAST, MOST}) {
            Check.due("put at crossing " + wrong, x.put(wrong, 0, 0, 1), false);
        }
        for (int wrong : new int[] {-1, 100, LEAST, MOST}) {
            Check.due("put of " + wrong, x.put(0, 0, 0, wrong), false);
        }
    }

    private static void aRefusedEntryChangesNothing() {
        BarrierLights x = new BarrierLights();
        x.put(0, 0, 8, 5);
        x.put(0, 0, -1, 5);
        x.put(0, 7, 8, 5);
        x.put(0, 0, 0, 100);
        Check.dueText("enact", Check.enact(x, 0), "IllegalStateException");
        Check.due("no entry was written", x.place(0), 64);
        Check.write(x, 0, 0, 5, 0, 5, 3, 0, 0, 0, 0);
        x.put(0, 0, 0, -1);
        x.put(0, 0, 2, 100);
        x.put(0, 0, 3, 100);
        Check.enact(x, 0);
        Check.due("phase 0 stays right", x.place(0), 65);
    }

    private static void crossingsHaveTheirOwnTables() {
        BarrierLights x = new BarrierLights();
        Check.write(x, 1, 0, 1, 0, 1, 3, 0, 0, 0, 0);
        Check.write(x, 1, 2, 1, 0, 1, 3, 0, 0, 0, 0);
        Check.dueText("enact(0)", Check.enact(x, 0), "IllegalStateException");
        Check.dueText("enact(1)", Check.enact(x, 1), "2");
    }
}
