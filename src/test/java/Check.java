/** What the project's tests share: it prints each answer that isn't the one that is due. */
final class Check {
    static final int[] NO_CROSSING = {-1, 2, Integer.MIN_VALUE, Integer.MAX_VALUE};
    static final int[] NO_PHASE = {-1, 8, Integer.MIN_VALUE, Integer.MAX_VALUE};
    static final int[] NO_INPUT = {-1, 2, Integer.MIN_VALUE, Integer.MAX_VALUE};
    private static final String LETTERS = "-RY?G???*";
    private static int wrong = 0;

    private Check() {
    }

    static void due(String call, long got, long want) {
        dueText(call, String.valueOf(got), String.valueOf(want));
    }

    static void due(String call, boolean got, boolean want) {
        dueText(call, String.valueOf(got), String.valueOf(want));
    }

    static void due(String call, float got, float want) {
        dueText(call, String.valueOf(got), String.valueOf(want));
    }

    static void dueText(String call, String got, String want) {
        if (!got.equals(want)) {
            wrong++;
            System.out.println(call + " answered " + got + ", due is " + want);
        }
    }

    static void end() {
        System.out.println(wrong == 0 ? "all answers are as due" : wrong + " answers are not as due");
        if (wrong != 0) {
            System.exit(1);
        }
    }

    /** What enact answers, or the simple name of what it throws. */
    static String enact(BarrierLights x, int crossing) {
        try {
            return String.valueOf(x.enact(crossing));
        } catch (IllegalArgumentException | IllegalStateException e) {
            return e.getClass().getSimpleName();
        }
    }

    /** What tick answers, or the simple name of what it throws. */
    static String tick(BarrierLights x, int n) {
        try {
            return String.valueOf(x.tick(n));
        } catch (IllegalArgumentException | IllegalStateException e) {
            return e.getClass().getSimpleName();
        }
    }

    static void ticks(BarrierLights x, int n) {
        for (int i = 0; i < n; i++) {
            x.tick(1);
        }
    }

    /** The entries of a phase: MIN, PASSAGE, MAX, YELLOW, RED, WALK, CLEAR, RECALL. */
    static void write(BarrierLights x, int crossing, int phase, int... entries) {
        for (int what = 0; what < entries.length; what++) {
            due("put(" + crossing + ", " + phase + ", " + what + ", " + entries[what] + ")",
                x.put(crossing, phase, what, entries[what]), true);
        }
    }

    /** A new object, crossing 0 of which has started with the same entries for all these phases. */
    static BarrierLights started(String phases, int... entries) {
        BarrierLights x = new BarrierLights();
        for (char phase : phases.toCharArray()) {
            write(x, 0, phase - '0', entries);
        }
        dueText("enact(0)", enact(x, 0), String.valueOf(phases.length()));
        return x;
    }

    /** A letter for each phase: R, Y, G, - nothing, * flashing, a digit for several lamps at once. */
    static String lamps(BarrierLights x, int crossing) {
        StringBuilder text = new StringBuilder();
        for (int phase = 0; phase < 8; phase++) {
            int lamps = x.lamp(crossing, phase);
            boolean known = lamps >= 0 && lamps < LETTERS.length() && LETTERS.charAt(lamps) != '?';
            text.append(known ? String.valueOf(LETTERS.charAt(lamps)) : String.valueOf(lamps));
        }
        return text.toString();
    }

    /** Ticks, with the lamps of crossing 0 that are due after each: "3 YRRRYRRR" is three such ticks. */
    static void trace(String name, BarrierLights x, String... rows) {
        for (String row : rows) {
            String[] parts = row.split(" ");
            for (int i = 0; i < Integer.parseInt(parts[0]); i++) {
                int clock = x.tick(1);
                dueText(name + ": the lamps at clock " + clock, lamps(x, 0), parts[1]);
            }
        }
    }

    /** The signs of all phases of crossing 0. */
    static String signs(BarrierLights x) {
        StringBuilder text = new StringBuilder();
        for (int phase = 0; phase < 8; phase++) {
            text.append(phase == 0 ? "" : " ").append(x.signs(0, phase));
        }
        return text.toString();
    }

    /** All that crossing(c, 0 .. 6) answers. */
    static String state(BarrierLights x, int crossing) {
        StringBuilder text = new StringBuilder();
        for (int what = 0; what < 7; what++) {
            text.append(what == 0 ? "" : " ").append(x.crossing(crossing, what));
        }
        return text.toString();
    }

    /** The lamps of one phase of crossing 0 that are due after each tick: "3 Y" is three such ticks. */
    static void lampTrace(String name, BarrierLights x, int phase, String... rows) {
        for (String row : rows) {
            String[] parts = row.split(" ");
            for (int i = 0; i < Integer.parseInt(parts[0]); i++) {
                int clock = x.tick(1);
                due(name + ": phase " + phase + " at clock " + clock, x.lamp(0, phase), LETTERS.indexOf(parts[1]));
            }
        }
    }

    /** The signs of one phase of crossing 0 that are due after each tick. */
    static void signTrace(String name, BarrierLights x, int phase, int... signs) {
        for (int sign : signs) {
            int clock = x.tick(1);
            due(name + ": signs of phase " + phase + " at clock " + clock, x.signs(0, phase), sign);
        }
    }

    /** All that can be asked of an object, but for place. */
    static String allButPlace(BarrierLights x) {
        StringBuilder text = new StringBuilder("clock ").append(x.tick(0));
        for (int crossing = 0; crossing < 2; crossing++) {
            text.append(" | ").append(state(x, crossing)).append(" | ").append(lamps(x, crossing)).append(" |");
            for (int phase = 0; phase < 8; phase++) {
                text.append(' ').append(x.signs(crossing, phase)).append('/').append(x.occupancy(crossing, phase));
            }
        }
        return text.toString();
    }

    /** All that can be asked of an object. */
    static String all(BarrierLights x) {
        return allButPlace(x) + " | " + x.place(0) + " " + x.place(1);
    }
}
