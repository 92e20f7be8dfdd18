import java.util.ArrayList;
import java.util.List;
import java.util.function.Function;

/** Every call that is refused: what it answers, and that nothing else has changed, now or later. */
public final class RefusedTest {
    private static final int LEAST = Integer.MIN_VALUE;
    private static final int MOST = Integer.MAX_VALUE;
    private static final String[] STATES = {"new", "green", "yellow", "input", "flashing"};

    /** A call that is refused in each state, or in the states named alone. */
    private record Refused(String name, String answer, String states, Function<BarrierLights, Object> call) {
    }

    private static final List<Refused> CALLS = new ArrayList<>();

    public static void main(String[] args) {
        puts();
        enacts();
        detectsAndPresses();
        inputs();
        plans();
        messages();
        faultsAndResets();
        ticks();
        questions();
        for (String state : STATES) {
            for (Refused refused : CALLS) {
                if (refused.states.contains(state)) {
                    changesNothing(state, refused);
                }
            }
            aWrongTableChangesThePlaceAlone(state);
        }
        Check.end();
    }

    private static void refuse(String name, Object answer, Function<BarrierLights, Object> call) {
        refuseIn(String.join(" ", STATES), name, answer, call);
    }

    private static void refuseIn(String states, String name, Object answer, Function<BarrierLights, Object> call) {
        CALLS.add(new Refused(name, String.valueOf(answer), states, call));
    }

    private static void puts() {
        for (int v : new int[] {0, 1, 99}) {
            for (int none : Check.NO_CROSSING) {
                refuse("put(" + none + ", 0, 0, " + v + ")", false, x -> x.put(none, 0, 0, v));
            }
            for (int none : Check.NO_PHASE) {
                refuse("put(0, " + none + ", 0, " + v + ")", false, x -> x.put(0, none, 0, v));
                refuse("put(0, 0, " + none + ", " + v + ")", false, x -> x.put(0, 0, none, v));
                refuse("put(1, 7, " + none + ", " + v + ")", false, x -> x.put(1, 7, none, v));
            }
        }
        for (int v : new int[] {-1, 100, 101, LEAST, MOST}) {
            for (int what = 0; what < 8; what++) {
                int entry = what;
                refuse("put(0, 0, " + what + ", " + v + ")", false, x -> x.put(0, 0, entry, v));
            }
        }
    }

    private static void enacts() {
        for (int none : Check.NO_CROSSING) {
            refuse("enact(" + none + ")", "IllegalArgumentException", x -> Check.enact(x, none));
        }
    }

    private static void detectsAndPresses() {
        for (int none : Check.NO_CROSSING) {
            refuse("detect(" + none + ", 0, true)", false, x -> x.detect(none, 0, true));
            refuse("detect(" + none + ", 0, false)", false, x -> x.detect(none, 0, false));
            refuse("press(" + none + ", 0)", false, x -> x.press(none, 0));
        }
        for (int none : Check.NO_PHASE) {
            refuse("detect(0, " + none + ", true)", false, x -> x.detect(0, none, true));
            refuse("detect(0, " + none + ", false)", false, x -> x.detect(0, none, false));
            refuse("press(0, " + none + ")", false, x -> x.press(0, none));
        }
        for (int phase = 0; phase < 8; phase++) {
            int button = phase;
            refuseIn("new flashing", "press(0, " + phase + ")", false, x -> x.press(0, button));
            refuse("press(1, " + phase + ") while that is OFF", false, x -> x.press(1, button));
        }
        refuse("press(0, 1), without WALK", false, x -> x.press(0, 1));
        refuse("press(0, 5), not used", false, x -> x.press(0, 5));
    }

    private static void inputs() {
        for (int none : Check.NO_CROSSING) {
            refuse("target(" + none + ", 0, 0)", false, x -> x.target(none, 0, 0));
            refuse("preempt(" + none + ", 0, true)", false, x -> x.preempt(none, 0, true));
            refuse("preempt(" + none + ", 0, false)", false, x -> x.preempt(none, 0, false));
        }
        for (int none : Check.NO_INPUT) {
            refuse("target(0, " + none + ", 0)", false, x -> x.target(0, none, 0));
            refuse("preempt(0, " + none + ", true)", false, x -> x.preempt(0, none, true));
            refuse("preempt(0, " + none + ", false)", false, x -> x.preempt(0, none, false));
        }
        for (int none : Check.NO_PHASE) {
            refuse("target(0, 0, " + none + ")", false, x -> x.target(0, 0, none));
            refuse("target(0, 1, " + none + ")", false, x -> x.target(0, 1, none));
        }
    }

    private static void plans() {
        for (int none : new int[] {-1, 4, LEAST, MOST}) {
            refuse("plan(" + none + ", 60, 0, 1)", false, x -> x.plan(none, 60, 0, 1));
        }
        for (int cycle : new int[] {19, 121, 0, 1, -1, -20, LEAST, MOST}) {
            refuse("plan(0, " + cycle + ", 0, 1)", false, x -> x.plan(0, cycle, 0, 1));
        }
        for (int cycle : new int[] {20, 21, 120}) {
            for (int offset : new int[] {-1, cycle, cycle + 1, LEAST, MOST}) {
                refuse("plan(0, " + cycle + ", " + offset + ", 1)", false, x -> x.plan(0, cycle, offset, 1));
            }
            for (int split : new int[] {0, -1, cycle, cycle + 1, LEAST, MOST}) {
                refuse("plan(0, " + cycle + ", 0, " + split + ")", false, x -> x.plan(0, cycle, 0, split));
            }
        }
    }

    /** In all states but the new one the message taken last had the number 6, and plans 0 and 1 were made. */
    private static void messages() {
        for (int none : Check.NO_CROSSING) {
            refuse("message(" + none + ", 7, 1)", false, x -> x.message(none, 7, 1));
        }
        for (int none : new int[] {-1, 8, 15, LEAST, MOST}) {
            refuse("message(0, " + none + ", 1)", false, x -> x.message(0, none, 1));
        }
        for (int none : new int[] {-1, 2, 3, 4, LEAST, MOST}) {
            refuse("message(0, 7, " + none + ")", false, x -> x.message(0, 7, none));
        }
        for (int number = 0; number < 7; number++) {
            int other = number;
            refuseIn("green yellow input flashing", "message(0, " + number + ", 1)", false, x -> x.message(0, other, 1));
        }
        for (int plan = 0; plan < 4; plan++) {
            int unmade = plan;
            refuseIn("new", "message(0, 0, " + plan + ")", false, x -> x.message(0, 0, unmade));
        }
    }

    private static void faultsAndResets() {
        for (int none : Check.NO_CROSSING) {
            refuse("fault(" + none + ", 0, 1)", false, x -> x.fault(none, 0, 1));
            refuse("reset(" + none + ")", false, x -> x.reset(none));
        }
        for (int none : Check.NO_PHASE) {
            refuse("fault(0, " + none + ", 1)", false, x -> x.fault(0, none, 1));
        }
        for (int none : new int[] {-1, 4, 5, LEAST, MOST}) {
            for (int phase = 0; phase < 8; phase++) {
                int broken = phase;
                refuse("fault(0, " + phase + ", " + none + ")", false, x -> x.fault(0, broken, none));
            }
        }
        refuseIn("new green yellow input", "reset(0)", false, x -> x.reset(0));
        refuse("reset(1) while that is OFF", false, x -> x.reset(1));
    }

    private static void ticks() {
        for (int wrong : new int[] {-1, -2, 21, 22, LEAST, MOST}) {
            refuse("tick(" + wrong + ")", "IllegalArgumentException", x -> Check.tick(x, wrong));
        }
    }

    private static void questions() {
        for (int none : Check.NO_CROSSING) {
            refuse("place(" + none + ")", -1, x -> x.place(none));
            refuse("lamp(" + none + ", 0)", -1, x -> x.lamp(none, 0));
            refuse("signs(" + none + ", 0)", -1, x -> x.signs(none, 0));
            refuse("occupancy(" + none + ", 0)", 0f, x -> x.occupancy(none, 0));
            for (int what = -1; what <= 7; what++) {
                int asked = what;
                refuse("crossing(" + none + ", " + what + ")", -1, x -> x.crossing(none, asked));
            }
        }
        for (int none : Check.NO_PHASE) {
            for (int crossing = 0; crossing < 2; crossing++) {
                int of = crossing;
                refuse("lamp(" + of + ", " + none + ")", -1, x -> x.lamp(of, none));
                refuse("signs(" + of + ", " + none + ")", -1, x -> x.signs(of, none));
                refuse("occupancy(" + of + ", " + none + ")", 0f, x -> x.occupancy(of, none));
            }
        }
        for (int none : new int[] {-1, 7, 8, LEAST, MOST}) {
            refuse("crossing(0, " + none + ")", -1, x -> x.crossing(0, none));
            refuse("crossing(1, " + none + ")", -1, x -> x.crossing(1, none));
        }
    }

    /** Phases 0, 1, 2, 4, 6 of crossing 0; all of them but 1 have WALK; crossing 1 is OFF. */
    private static BarrierLights inState(String state) {
        BarrierLights x = new BarrierLights();
        for (int phase : new int[] {0, 1, 2, 4, 6}) {
            int walk = phase == 1 ? 0 : 2;
            Check.write(x, 0, phase, 3, 1, 9, 3, 1, walk, walk, phase == 6 ? 1 : 0);
        }
        if (state.equals("new")) {
            return x;
        }
        Check.enact(x, 0);
        x.plan(0, 30, 3, 4);
        x.plan(1, 24, 0, 5);
        x.message(0, 6, 0);
        x.target(0, 0, 2);
        x.target(0, 1, 4);
        x.detect(0, 0, true);
        x.detect(0, 7, true);
        x.press(0, 4);
        x.tick(3);
        if (state.equals("yellow")) {
            x.detect(0, 0, false);
            x.tick(4);
        }
        x.preempt(0, 0, state.equals("input"));
        x.fault(0, 2, state.equals("flashing") ? 2 : 0);
        x.tick(1);
        return x;
    }

    /** What comes later: it shows what no question can ask now, of both objects alike. */
    private static String later(BarrierLights x) {
        StringBuilder text = new StringBuilder();
        for (int i = 0; i < 14; i++) {
            text.append(x.tick(1)).append(Check.lamps(x, 0)).append(x.crossing(0, 4)).append(' ');
        }
        text.append(x.preempt(0, 1, true)).append(x.crossing(0, 1)).append(x.tick(5)).append(Check.lamps(x, 0));
        text.append(x.preempt(0, 1, false)).append(x.tick(5)).append(Check.lamps(x, 0));
        text.append(x.crossing(0, 3)).append(' ').append(x.tick(1)).append(x.crossing(0, 3)).append(' ');
        text.append(x.tick(1)).append(x.crossing(0, 3)).append(x.tick(1)).append(x.crossing(0, 3)).append(' ');
        text.append(x.message(0, 7, 1)).append(x.reset(0)).append(Check.enact(x, 1)).append(Check.enact(x, 0));
        for (int i = 0; i < 4; i++) {
            text.append(x.tick(5)).append(Check.lamps(x, 0)).append(' ');
        }
        return text.append(Check.all(x)).toString();
    }

    private static void changesNothing(String state, Refused refused) {
        BarrierLights x = inState(state);
        BarrierLights twin = inState(state);
        String name = refused.name + ", " + state;
        Check.dueText(name, String.valueOf(refused.call.apply(x)), refused.answer);
        Check.dueText("all behind " + name, Check.all(x), Check.all(twin));
        Check.dueText("later behind " + name, later(x), later(twin));
    }

    /** The table is wrong at phase 6's YELLOW; it is mended before the two go on. */
    private static void aWrongTableChangesThePlaceAlone(String state) {
        for (int yellow : new int[] {2, 7}) {
            BarrierLights x = inState(state);
            BarrierLights twin = inState(state);
            x.put(0, 6, 3, yellow);
            Check.dueText("enact of a wrong table, " + state, Check.enact(x, 0), "IllegalStateException");
            Check.due("place, " + state, x.place(0), 51);
            Check.due("place of the other, " + state, x.place(1), -1);
            Check.dueText("all behind it, " + state, Check.allButPlace(x), Check.allButPlace(twin));
            x.put(0, 6, 3, 3);
            Check.due("place before the next enact, " + state, x.place(0), 51);
            Check.dueText("later behind it, " + state, later(x), later(twin));
        }
    }
}
