/** Promise 10, and (b) of a tick: the link and the local clock. */
public final class MessageTest {
    public static void main(String[] args) {
        whatIsNotThereIsRefused();
        numbersFollow();
        aRefusedMessageChangesNothing();
        theLocalClockGoesOn();
        theShorterWay();
        itIsPutRightEveryFifthTick();
        anotherPlanKeepsTheClock();
        silence();
        Check.end();
    }

    private static void whatIsNotThereIsRefused() {
        BarrierLights x = new BarrierLights();
        x.plan(2, 30, 0, 10);
        for (int wrong : new int[] {-1, 2, Integer.MIN_VALUE, Integer.MAX_VALUE}) {
            Check.due("message to " + wrong, x.message(wrong, 0, 2), false);
        }
        for (int wrong : new int[] {-1, 8, Integer.MIN_VALUE, Integer.MAX_VALUE}) {
            Check.due("message " + wrong, x.message(0, wrong, 2), false);
        }
        for (int wrong : new int[] {-1, 0, 1, 3, 4, Integer.MIN_VALUE, Integer.MAX_VALUE}) {
            Check.due("message with plan " + wrong, x.message(0, 0, wrong), false);
        }
        Check.due("no plan", x.crossing(0, 3), -1);
        Check.due("no local clock", x.crossing(0, 4), -1);
        Check.due("message", x.message(0, 7, 2), true);
        Check.due("plan", x.crossing(0, 3), 2);
        Check.due("local clock", x.crossing(0, 4), 0);
        Check.due("the other's plan", x.crossing(1, 3), -1);
    }

    private static void numbersFollow() {
        for (int first = 0; first < 8; first++) {
            BarrierLights x = new BarrierLights();
            x.plan(0, 30, 0, 10);
            Check.due("the first message " + first, x.message(0, first, 0), true);
            for (int number = 0; number < 8; number++) {
                if (number != (first + 1) % 8) {
                    Check.due(number + " after " + first, x.message(0, number, 0), false);
                }
            }
            Check.due("the next after " + first, x.message(0, (first + 1) % 8, 0), true);
            Check.due("the other crossing has its own", x.message(1, first, 0), true);
        }
    }

    private static void aRefusedMessageChangesNothing() {
        BarrierLights x = new BarrierLights();
        x.plan(0, 30, 0, 10);
        x.plan(1, 20, 0, 10);
        x.message(0, 3, 0);
        Check.ticks(x, 26);
        Check.due("the same number", x.message(0, 3, 1), false);
        Check.due("a plan that wasn't made", x.message(0, 4, 2), false);
        Check.due("plan", x.crossing(0, 3), 0);
        Check.due("local clock", x.crossing(0, 4), 25);
        Check.ticks(x, 3);
        Check.due("silence 29", x.crossing(0, 3), 0);
        Check.ticks(x, 1);
        Check.due("silence went on", x.crossing(0, 3), -1);
    }

    private static void theLocalClockGoesOn() {
        BarrierLights x = new BarrierLights();
        x.plan(0, 20, 0, 10);
        x.message(1, 0, 0);
        for (int i = 0; i < 29; i++) {
            x.tick(1);
            Check.due("local clock, OFF, at clock " + (i + 1), x.crossing(1, 4), i % 20);
        }
        Check.due("the other has none", x.crossing(0, 4), -1);
    }

    /** At clock 0 the local clock becomes 1 and is put right from there. */
    private static void theShorterWay() {
        int[][] offsetAndDue = {{0, 0}, {19, 1}, {18, 2}, {10, 2}, {9, 2}, {8, 0}, {1, 0}};
        for (int[] row : offsetAndDue) {
            BarrierLights x = new BarrierLights();
            x.plan(0, 20, row[0], 10);
            x.message(0, 0, 0);
            x.tick(1);
            Check.due("local clock with offset " + row[0], x.crossing(0, 4), row[1]);
        }
        BarrierLights y = new BarrierLights();
        y.plan(0, 21, 9, 10);
        y.message(0, 0, 0);
        y.tick(1);
        Check.due("behind by 11 of 21", y.crossing(0, 4), 0);
        BarrierLights z = new BarrierLights();
        z.plan(0, 21, 10, 10);
        z.message(0, 0, 0);
        z.tick(1);
        Check.due("behind by 10 of 21", z.crossing(0, 4), 2);
    }

    private static void itIsPutRightEveryFifthTick() {
        BarrierLights x = new BarrierLights();
        x.plan(0, 20, 16, 10);
        x.tick(3);
        x.message(0, 0, 0);
        int[] due = {1, 2, 4, 5, 6, 7, 8, 10, 11, 12, 13, 14, 16, 17, 18, 19, 0, 2, 3, 4, 5, 6, 8, 9};
        for (int local : due) {
            x.tick(1);
            Check.due("local clock at clock " + x.tick(0), x.crossing(0, 4), local);
        }
        BarrierLights y = new BarrierLights();
        y.plan(0, 20, 5, 10);
        y.message(0, 0, 0);
        y.tick(1);
        Check.due("back", y.crossing(0, 4), 0);
        y.tick(5);
        Check.due("back again", y.crossing(0, 4), 4);
        y.tick(15);
        Check.due("back to what is due, clock 21", y.crossing(0, 4), 16);
        y.tick(5);
        Check.due("at clock 26", y.crossing(0, 4), 0);
        y.message(0, 1, 0);
        y.tick(5);
        Check.due("at clock 31 it is right", y.crossing(0, 4), 5);
        y.tick(5);
        Check.due("and stays so", y.crossing(0, 4), 10);
    }

    private static void anotherPlanKeepsTheClock() {
        BarrierLights x = new BarrierLights();
        x.plan(0, 60, 0, 10);
        x.plan(1, 20, 0, 10);
        x.plan(3, 120, 0, 10);
        x.message(0, 6, 0);
        Check.ticks(x, 27);
        Check.due("message", x.message(0, 7, 1), true);
        Check.due("plan", x.crossing(0, 3), 1);
        Check.due("local clock modulo 20", x.crossing(0, 4), 6);
        Check.due("message", x.message(0, 0, 3), true);
        Check.due("local clock stays", x.crossing(0, 4), 6);
    }

    private static void silence() {
        BarrierLights x = Check.started("0246", 2, 0, 9, 3, 0, 0, 0, 0);
        x.plan(1, 60, 0, 1);
        x.message(0, 5, 1);
        Check.due("by a plan", x.crossing(0, 1), 2);
        Check.ticks(x, 29);
        Check.dueText("after 29 ticks", Check.state(x, 0), "1 2 0 1 28 2 6");
        x.message(0, 6, 1);
        Check.ticks(x, 29);
        Check.dueText("a message breaks it", Check.state(x, 0), "1 2 0 1 57 2 6");
        Check.ticks(x, 1);
        Check.dueText("after 30 ticks it runs free", Check.state(x, 0), "1 1 0 -1 -1 2 6");
        Check.due("numbers go on from the last taken", x.message(0, 6, 1), false);
        Check.due("message", x.message(0, 7, 1), true);
        Check.dueText("with the local clock 0", Check.state(x, 0), "1 2 0 1 0 2 6");
        Check.ticks(x, 29);
        Check.due("its silence began anew", x.crossing(0, 3), 1);
    }
}
