/**
 * The document's words once more, phase by phase and as literally as can be, for ModelTest to compare with.
 * It shares nothing with BarrierLights: no sets as bits, nothing kept that can be asked anew.
 */
final class Model {
    private static final int MIN = 0;
    private static final int PASSAGE = 1;
    private static final int MAX = 2;
    private static final int YELLOW = 3;
    private static final int RED = 4;
    private static final int WALK = 5;
    private static final int CLEAR = 6;
    private static final int RECALL = 7;

    private enum State { WAITS, GREEN, YELLOW, RED }

    private enum Walker { NONE, WALK, CLEAR }

    private static final class Ring {
        private State state = State.WAITS;
        private int phase = -1;
        private int next = -1;
        private int age;
        private int against;
        private int gap;
        private Walker walker = Walker.NONE;
        private int walkerAge;

        private void turn(State to) {
            state = to;
            age = 0;
        }

        private void rest() {
            turn(State.WAITS);
            phase = -1;
            next = -1;
            walker = Walker.NONE;
        }

        private void walker(Walker to) {
            walker = to;
            walkerAge = 0;
        }
    }

    private static final class Crossing {
        private final int[][] written = new int[8][8];
        private final int[][] table = new int[8][8];
        private final boolean[] call = new boolean[8];
        private final boolean[] walkCall = new boolean[8];
        private final boolean[] on = new boolean[8];
        private final int[] onTime = new int[8];
        private final float[] occupancy = new float[8];
        private final int[] fault = new int[8];
        private final boolean[] inputOn = new boolean[2];
        private final int[] target = {-1, -1};
        private final Ring[] rings = {new Ring(), new Ring()};
        private final int[] shownBefore = new int[8];
        private final int[] darkTicks = new int[8];
        private final int[] yellowTicks = new int[8];
        private boolean off = true;
        private boolean hadInput;
        private int why;
        private int side;
        private int place = -1;
        private int plan = -1;
        private int localClock;
        private int silence;
        private int number = -1;

        private boolean used(int phase) {
            return table[phase][MIN] != 0;
        }

        private boolean green(int phase) {
            Ring ring = rings[phase / 4];
            return ring.state == State.GREEN && ring.phase == phase;
        }

        private boolean failed(int phase) {
            return onTime[phase] >= 60;
        }

        private boolean extended(int phase) {
            return on[phase] && !failed(phase);
        }

        private boolean counts(int phase) {
            return (call[phase] || walkCall[phase]) && !green(phase);
        }

        private int inForce() {
            int input = inputOn[0] ? 0 : 1;
            boolean is = inputOn[input] && target[input] >= 0 && used(target[input]);
            return is ? target[input] : -1;
        }

        private boolean bothWait() {
            return rings[0].state == State.WAITS && rings[1].state == State.WAITS;
        }

        private boolean needed() {
            for (int phase = 0; phase < 8; phase++) {
                boolean before = phase < rings[phase / 4].phase;
                if (counts(phase) && (side(phase) != side || before)) {
                    return true;
                }
            }
            return false;
        }

        private int forward(Ring ring) {
            int behind = ring.phase + 1;
            boolean is = ring.state == State.GREEN && behind % 4 != 0 && side(behind) == side && counts(behind);
            return is ? behind : -1;
        }

        private boolean wanted(Ring ring) {
            return inForce() < 0 && ring.state == State.GREEN && (forward(ring) >= 0 || needed());
        }

        private boolean done(Ring ring, boolean forced) {
            if (!wanted(ring) || ring.walker != Walker.NONE || ring.age < table[ring.phase][MIN]) {
                return false;
            }
            return ring.gap == 0 || ring.against >= table[ring.phase][MAX] || forced;
        }

        private int goal(int number, int target) {
            int same = number * 4 + target % 4;
            return used(same) ? same : -1;
        }

        private boolean doneByInput(int number, int target) {
            Ring ring = rings[number];
            return ring.state == State.GREEN && ring.phase != goal(number, target)
                && ring.age >= table[ring.phase][MIN] && ring.walker != Walker.CLEAR;
        }

        private int lamps(int phase) {
            if (off || !used(phase)) {
                return 0;
            }
            if (why != 0) {
                return 8;
            }
            Ring ring = rings[phase / 4];
            State state = ring.phase == phase ? ring.state : State.RED;
            boolean red = state == State.RED && fault[phase] != 1;
            boolean yellow = state == State.YELLOW && fault[phase] != 3;
            boolean green = state == State.GREEN || fault[phase] == 2;
            return (red ? 1 : 0) + (yellow ? 2 : 0) + (green ? 4 : 0);
        }

        private void start() {
            off = false;
            why = 0;
            side = 1;
            rings[0].rest();
            rings[1].rest();
            for (int phase = 0; phase < 8; phase++) {
                call[phase] = used(phase);
                walkCall[phase] = false;
                shownBefore[phase] = 0;
                darkTicks[phase] = 0;
                yellowTicks[phase] = 0;
            }
        }

        private void begin(int phase) {
            Ring ring = rings[phase / 4];
            ring.turn(State.GREEN);
            ring.phase = phase;
            ring.next = -1;
            ring.against = 0;
            ring.gap = extended(phase) ? table[phase][PASSAGE] : 0;
            call[phase] = false;
            ring.walker(Walker.NONE);
            if ((walkCall[phase] || table[phase][RECALL] == 3) && table[phase][WALK] != 0) {
                ring.walker(Walker.WALK);
                walkCall[phase] = false;
            }
        }

        private void leave() {
            for (Ring ring : rings) {
                if (ring.state == State.GREEN) {
                    ring.turn(State.YELLOW);
                    ring.next = -1;
                }
            }
        }
    }

    private final Crossing[] crossings = {new Crossing(), new Crossing()};
    private final int[][] plans = new int[4][];
    private int clock;

    private static boolean in(int v, int least, int most) {
        return v >= least && v <= most;
    }

    private static int side(int phase) {
        return phase == 0 || phase == 1 || phase == 4 || phase == 5 ? 0 : 1;
    }

    boolean put(int crossing, int phase, int what, int v) {
        if (!in(crossing, 0, 1) || !in(phase, 0, 7) || !in(what, 0, 7) || !in(v, 0, 99)) {
            return false;
        }
        crossings[crossing].written[phase][what] = v;
        return true;
    }

    /** How many phases are used, or what is thrown. */
    String enact(int crossing) {
        if (!in(crossing, 0, 1)) {
            return "IllegalArgumentException";
        }
        Crossing c = crossings[crossing];
        c.place = wrongPlace(c.written);
        if (c.place != -1) {
            return "IllegalStateException";
        }
        int used = 0;
        for (int phase = 0; phase < 8; phase++) {
            c.table[phase] = c.written[phase].clone();
            used += c.used(phase) ? 1 : 0;
        }
        c.start();
        return String.valueOf(used);
    }

    private static int wrongPlace(int[][] table) {
        for (int phase = 0; phase < 8; phase++) {
            int[] row = table[phase];
            boolean walk = row[WALK] != 0;
            boolean[] right = {row[MIN] <= 30, row[PASSAGE] <= 10, in(row[MAX], row[MIN], 60), in(row[YELLOW], 3, 6),
                row[RED] <= 4, row[WALK] <= 20, walk ? in(row[CLEAR], 1, 20) : row[CLEAR] == 0,
                row[RECALL] <= (walk ? 3 : 2)};
            for (int what = 0; what < 8; what++) {
                if (row[MIN] != 0 && !right[what]) {
                    return 8 * phase + what;
                }
            }
        }
        for (int side = 0; side < 2; side++) {
            int first = 2 * side;
            if (table[first][MIN] + table[first + 1][MIN] + table[first + 4][MIN] + table[first + 5][MIN] == 0) {
                return 64 + side;
            }
        }
        return -1;
    }

    int place(int crossing) {
        return in(crossing, 0, 1) ? crossings[crossing].place : -1;
    }

    boolean detect(int crossing, int phase, boolean on) {
        if (!in(crossing, 0, 1) || !in(phase, 0, 7)) {
            return false;
        }
        crossings[crossing].on[phase] = on;
        return true;
    }

    boolean press(int crossing, int phase) {
        if (!in(crossing, 0, 1) || !in(phase, 0, 7)) {
            return false;
        }
        Crossing c = crossings[crossing];
        if (c.off || c.why != 0 || !c.used(phase) || c.table[phase][WALK] == 0) {
            return false;
        }
        c.walkCall[phase] = true;
        return true;
    }

    boolean target(int crossing, int input, int phase) {
        if (!in(crossing, 0, 1) || !in(input, 0, 1) || !in(phase, 0, 7)) {
            return false;
        }
        crossings[crossing].target[input] = phase;
        return true;
    }

    boolean preempt(int crossing, int input, boolean on) {
        if (!in(crossing, 0, 1) || !in(input, 0, 1)) {
            return false;
        }
        crossings[crossing].inputOn[input] = on;
        return true;
    }

    boolean plan(int plan, int cycle, int offset, int split) {
        if (!in(plan, 0, 3) || !in(cycle, 20, 120) || !in(offset, 0, cycle - 1) || !in(split, 1, cycle - 1)) {
            return false;
        }
        plans[plan] = new int[] {cycle, offset, split};
        for (Crossing c : crossings) {
            c.localClock = c.plan == plan ? c.localClock % cycle : c.localClock;
        }
        return true;
    }

    boolean message(int crossing, int number, int plan) {
        if (!in(crossing, 0, 1) || !in(number, 0, 7) || !in(plan, 0, 3) || plans[plan] == null) {
            return false;
        }
        Crossing c = crossings[crossing];
        if (c.number != -1 && number != (c.number + 1) % 8) {
            return false;
        }
        c.localClock = c.plan == -1 ? 0 : c.localClock % plans[plan][0];
        c.plan = plan;
        c.number = number;
        c.silence = 0;
        return true;
    }

    boolean fault(int crossing, int phase, int fault) {
        if (!in(crossing, 0, 1) || !in(phase, 0, 7) || !in(fault, 0, 3)) {
            return false;
        }
        crossings[crossing].fault[phase] = fault;
        return true;
    }

    boolean reset(int crossing) {
        if (!in(crossing, 0, 1) || crossings[crossing].why == 0) {
            return false;
        }
        crossings[crossing].start();
        return true;
    }

    /** The clock, or what is thrown. */
    String tick(int n) {
        if (!in(n, 0, 20)) {
            return "IllegalArgumentException";
        }
        for (int i = 0; i < n; i++) {
            pass(crossings[0]);
            pass(crossings[1]);
            clock++;
        }
        return String.valueOf(clock);
    }

    private void pass(Crossing c) {
        detectors(c);
        link(c);
        if (c.off || c.why != 0) {
            return;
        }
        calls(c);
        times(c, c.rings[0]);
        times(c, c.rings[1]);
        if (c.inForce() >= 0) {
            withAnInput(c, c.inForce());
        } else {
            withoutAnInput(c);
        }
        monitor(c);
    }

    private static void detectors(Crossing c) {
        for (int phase = 0; phase < 8; phase++) {
            c.onTime[phase] = c.on[phase] ? Math.min(100, c.onTime[phase] + 1) : 0;
            c.occupancy[phase] *= 0.875f;
            if (c.on[phase]) {
                c.occupancy[phase] += 0.125f;
            }
        }
    }

    private void link(Crossing c) {
        if (c.plan >= 0) {
            c.silence++;
        }
        if (c.silence == 30) {
            c.plan = -1;
        }
        if (c.plan < 0) {
            return;
        }
        int cycle = plans[c.plan][0];
        int due = Math.floorMod(clock - plans[c.plan][1], cycle);
        c.localClock = (c.localClock + 1) % cycle;
        if (clock % 5 == 0 && c.localClock != due) {
            int more = 0;
            while ((c.localClock + more) % cycle != due) {
                more++;
            }
            int less = 0;
            while ((c.localClock + cycle - less) % cycle != due) {
                less++;
            }
            c.localClock = (c.localClock + (more <= less ? 1 : cycle - 1)) % cycle;
        }
    }

    private static void calls(Crossing c) {
        for (int phase = 0; phase < 8; phase++) {
            int recall = c.table[phase][RECALL];
            Ring ring = c.rings[phase / 4];
            if (c.green(phase)) {
                boolean kept = c.extended(phase) || recall == 2;
                ring.gap = kept ? c.table[phase][PASSAGE] : Math.max(ring.gap - 1, 0);
            } else if (c.used(phase)) {
                c.call[phase] |= c.on[phase] || c.failed(phase) || recall == 1 || recall == 2;
                c.walkCall[phase] |= recall == 3;
            }
        }
    }

    private static void times(Crossing c, Ring ring) {
        if (ring.state == State.WAITS) {
            return;
        }
        int[] row = c.table[ring.phase];
        ring.age++;
        ring.walkerAge++;
        if (ring.walker == Walker.WALK && ring.walkerAge == row[WALK]) {
            ring.walker(Walker.CLEAR);
        } else if (ring.walker == Walker.CLEAR && ring.walkerAge == row[CLEAR]) {
            ring.walker(Walker.NONE);
        }
        ring.against += c.wanted(ring) ? 1 : 0;
        if (ring.state == State.YELLOW && ring.age == row[YELLOW]) {
            ring.turn(State.RED);
        }
        if (ring.state == State.RED && ring.age == row[RED]) {
            if (ring.next >= 0) {
                c.begin(ring.next);
            } else {
                ring.rest();
            }
        }
    }

    private void withoutAnInput(Crossing c) {
        for (int phase = 0; phase < 8; phase++) {
            c.call[phase] |= c.hadInput && c.used(phase) && !c.green(phase);
        }
        c.hadInput = false;
        boolean early = c.plan >= 0 && c.localClock < plans[c.plan][2];
        boolean forced = early && c.side == 1;
        for (Ring ring : c.rings) {
            boolean green = ring.state == State.GREEN;
            if (green && c.walkCall[ring.phase] && ring.walker == Walker.NONE && !c.wanted(ring)) {
                ring.walker(Walker.WALK);
                c.walkCall[ring.phase] = false;
            }
        }
        for (Ring ring : c.rings) {
            if (c.done(ring, forced) && c.forward(ring) >= 0) {
                ring.next = c.forward(ring);
                ring.turn(State.YELLOW);
            }
        }
        boolean leave = !(early && c.side == 0);
        for (Ring ring : c.rings) {
            leave &= ring.state == State.WAITS || c.done(ring, forced) && c.forward(ring) < 0;
        }
        if (leave) {
            c.leave();
        }
        if (c.bothWait()) {
            cross(c);
        }
    }

    private static void cross(Crossing c) {
        boolean here = false;
        boolean there = false;
        for (int phase = 0; phase < 8; phase++) {
            here |= c.counts(phase) && side(phase) == c.side;
            there |= c.counts(phase) && side(phase) != c.side;
        }
        if (!here && !there) {
            return;
        }
        c.side = there ? 1 - c.side : c.side;
        for (int first = 2 * c.side; first < 8; first += 4) {
            if (c.counts(first)) {
                c.begin(first);
            } else if (c.counts(first + 1)) {
                c.begin(first + 1);
            } else if (c.used(first)) {
                c.begin(first);
            } else if (c.used(first + 1)) {
                c.begin(first + 1);
            }
        }
    }

    private static void withAnInput(Crossing c, int target) {
        c.hadInput = true;
        for (int number = 0; number < 2; number++) {
            Ring ring = c.rings[number];
            if (ring.walker == Walker.WALK) {
                ring.walker(Walker.CLEAR);
            }
            int goal = c.goal(number, target);
            if (c.doneByInput(number, target) && goal >= 0 && side(goal) == c.side) {
                ring.next = goal;
                ring.turn(State.YELLOW);
            }
        }
        boolean leave = side(target) != c.side;
        for (int number = 0; number < 2; number++) {
            leave &= c.rings[number].state == State.WAITS || c.doneByInput(number, target);
        }
        if (leave) {
            c.leave();
        }
        for (int number = 0; number < 2; number++) {
            c.side = c.bothWait() ? side(target) : c.side;
            int goal = c.goal(number, target);
            if (c.rings[number].state == State.WAITS && goal >= 0 && side(goal) == c.side) {
                c.begin(goal);
            }
        }
    }

    private static void monitor(Crossing c) {
        boolean conflict = false;
        boolean dark = false;
        boolean tooShort = false;
        for (int phase = 0; phase < 8; phase++) {
            int lamps = c.lamps(phase);
            boolean goes = (lamps & 6) != 0;
            for (int other = 0; other < phase; other++) {
                boolean together = other / 4 != phase / 4 && side(other) == side(phase);
                conflict |= goes && (c.lamps(other) & 6) != 0 && !together;
            }
            c.darkTicks[phase] = c.used(phase) && lamps == 0 ? c.darkTicks[phase] + 1 : 0;
            dark |= c.darkTicks[phase] == 2;
            tooShort |= (c.shownBefore[phase] & 6) != 0 && !goes && c.yellowTicks[phase] < 3;
            c.yellowTicks[phase] = (lamps & 4) != 0 ? 0 : c.yellowTicks[phase] + ((lamps & 2) != 0 ? 1 : 0);
            c.shownBefore[phase] = lamps;
        }
        c.why = conflict ? 1 : dark ? 2 : tooShort ? 3 : 0;
        if (c.why != 0) {
            c.rings[0].rest();
            c.rings[1].rest();
            java.util.Arrays.fill(c.call, false);
            java.util.Arrays.fill(c.walkCall, false);
        }
    }

    int lamp(int crossing, int phase) {
        return in(crossing, 0, 1) && in(phase, 0, 7) ? crossings[crossing].lamps(phase) : -1;
    }

    int signs(int crossing, int phase) {
        if (!in(crossing, 0, 1) || !in(phase, 0, 7)) {
            return -1;
        }
        Crossing c = crossings[crossing];
        Walker walker = c.green(phase) ? c.rings[phase / 4].walker : Walker.NONE;
        return (c.call[phase] ? 1 : 0) + (c.walkCall[phase] ? 2 : 0) + (walker == Walker.WALK ? 4 : 0)
            + (walker == Walker.CLEAR ? 8 : 0) + (c.failed(phase) ? 16 : 0);
    }

    int crossing(int crossing, int what) {
        if (!in(crossing, 0, 1) || !in(what, 0, 6)) {
            return -1;
        }
        Crossing c = crossings[crossing];
        int way = c.off ? 0 : c.why != 0 ? 4 : c.inForce() >= 0 ? 3 : c.plan >= 0 ? 2 : 1;
        int local = c.plan >= 0 ? c.localClock : -1;
        return new int[] {c.side, way, c.why, c.plan, local, c.rings[0].phase, c.rings[1].phase}[what];
    }

    float occupancy(int crossing, int phase) {
        return in(crossing, 0, 1) && in(phase, 0, 7) ? crossings[crossing].occupancy[phase] : 0f;
    }
}
