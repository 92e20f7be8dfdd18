/** Promise 15. */
public final class SignsTest {
    public static void main(String[] args) {
        whatIsNotThere();
        eachSign();
        together();
        Check.end();
    }

    private static void whatIsNotThere() {
        BarrierLights x = Check.started("02", 1, 0, 1, 3, 0, 0, 0, 0);
        for (int wrong : new int[] {-1, 8, Integer.MIN_VALUE, Integer.MAX_VALUE}) {
            Check.due("signs of phase " + wrong, x.signs(0, wrong), -1);
        }
        for (int wrong : new int[] {-1, 2, Integer.MIN_VALUE, Integer.MAX_VALUE}) {
            Check.due("signs at crossing " + wrong, x.signs(wrong, 0), -1);
        }
    }

    private static void eachSign() {
        BarrierLights x = Check.started("0257", 1, 0, 1, 3, 0, 1, 2, 0);
        Check.dueText("calls", Check.signs(x), "1 0 1 0 0 1 0 1");
        x.tick(1);
        Check.dueText("the calls of 0 and 5 are gone", Check.signs(x), "0 0 1 0 0 0 0 1");
        x.press(0, 5);
        x.press(0, 7);
        Check.dueText("walk calls", Check.signs(x), "0 0 1 0 0 2 0 3");
        Check.trace("to side 1", x, "3 Y-R--Y-R", "1 R-G--R-G");
        Check.dueText("WALK", Check.signs(x), "0 0 0 0 0 2 0 4");
        x.tick(1);
        Check.dueText("CLEAR", Check.signs(x), "0 0 0 0 0 2 0 8");
        x.tick(1);
        Check.dueText("CLEAR", Check.signs(x), "0 0 0 0 0 2 0 8");
        x.tick(1);
        Check.dueText("its end", Check.signs(x), "0 0 0 0 0 2 0 0");
    }

    private static void together() {
        BarrierLights x = Check.started("02", 1, 0, 60, 3, 0, 20, 20, 3);
        x.detect(0, 0, true);
        x.detect(0, 1, true);
        Check.ticks(x, 60);
        x.press(0, 2);
        Check.dueText("call, walk call, failed; WALK", Check.signs(x), "19 16 6 0 0 0 0 0");
        Check.ticks(x, 10);
        Check.dueText("CLEAR", Check.signs(x), "19 16 10 0 0 0 0 0");
        BarrierLights y = Check.started("02", 1, 0, 60, 3, 0, 3, 2, 0);
        y.tick(10);
        y.detect(0, 2, true);
        Check.ticks(y, 60);
        y.press(0, 2);
        Check.due("walk call, failed", y.signs(0, 2), 18);
        y.tick(1);
        y.press(0, 2);
        Check.due("walk call, WALK, failed", y.signs(0, 2), 22);
        Check.signTrace("walk call, CLEAR, failed", y, 2, 22, 22, 26, 26, 20);
    }
}
