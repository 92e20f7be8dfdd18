/**
 * Two crossings with signals, their controllers, plans and monitors.
 * What each call promises is written in DOC.md; capital words here are its terms.
 */
public final class BarrierLights {
    public static final int NONE = -1;

    private static final int PHASES = 8;
    private static final int PHASES_OF_A_RING = 4;
    private static final int PHASES_OF_A_SIDE = 2;
    private static final int RINGS = 2;
    private static final int SIDES = 2;
    private static final int INPUTS = 2;
    private static final int PLANS = 4;
    private static final int NUMBERS = 8;
    private static final int MOST_TICKS = 20;

    private static final int SIDE_0_PHASES = 0x33;
    private static final int SIDE_1_PHASES = 0xCC;

    private static final int MIN = 0;
    private static final int PASSAGE = 1;
    private static final int MAX = 2;
    private static final int YELLOW_TIME = 3;
    private static final int RED_TIME = 4;
    private static final int WALK_TIME = 5;
    private static final int CLEAR_TIME = 6;
    private static final int RECALL = 7;
    private static final int ENTRIES = 8;
    private static final int MOST_OF_AN_ENTRY = 99;
    private static final int WRONG_SIDE = 64;

    private static final int RECALL_TO_MIN = 1;
    private static final int RECALL_TO_MAX = 2;
    private static final int RECALL_TO_WALK = 3;

    private static final int RED = 1;
    private static final int YELLOW = 2;
    private static final int GREEN = 4;
    private static final int FLASH = 8;

    private static final int RED_IS_DARK = 1;
    private static final int GREEN_BURNS = 2;
    private static final int YELLOW_IS_DARK = 3;

    private static final int CALL_SIGN = 1;
    private static final int WALK_CALL_SIGN = 2;
    private static final int WALK_SIGN = 4;
    private static final int CLEAR_SIGN = 8;
    private static final int FAILED_SIGN = 16;

    private static final int IS_OFF = 0;
    private static final int GOES_FREE = 1;
    private static final int GOES_BY_PLAN = 2;
    private static final int GOES_BY_INPUT = 3;
    private static final int FLASHES = 4;

    private final Plans plans = new Plans();
    private final Controller controller0 = new Controller();
    private final Controller controller1 = new Controller();
    private int clock = 0;

    public BarrierLights() {
    }

    public boolean put(int crossing, int phase, int what, int v) {
        Controller controller = controllerOf(crossing);
        if (controller == null || !isPhase(phase)) {
            return false;
        }
        if (what < 0 || what >= ENTRIES || v < 0 || v > MOST_OF_AN_ENTRY) {
            return false;
        }
        controller.written.write(phase, what, v);
        return true;
    }

    public int enact(int crossing) throws IllegalArgumentException, IllegalStateException {
        Controller controller = controllerOf(crossing);
        if (controller == null) {
            throw new IllegalArgumentException("no such crossing");
        }
        if (!controller.takeWrittenTable()) {
            throw new IllegalStateException("the table is wrong");
        }
        return Integer.bitCount(controller.used);
    }

    public int place(int crossing) {
        Controller controller = controllerOf(crossing);
        return controller == null ? NONE : controller.wrongPlace;
    }

    public boolean detect(int crossing, int phase, boolean on) {
        Controller controller = controllerOf(crossing);
        if (controller == null || !isPhase(phase)) {
            return false;
        }
        controller.detectors.turn(phase, on);
        return true;
    }

    public boolean press(int crossing, int phase) {
        Controller controller = controllerOf(crossing);
        return controller != null && isPhase(phase) && controller.takeButton(phase);
    }

    public boolean target(int crossing, int input, int phase) {
        Controller controller = controllerOf(crossing);
        if (controller == null || !isInput(input) || !isPhase(phase)) {
            return false;
        }
        controller.inputs.aim(input, phase);
        return true;
    }

    public boolean preempt(int crossing, int input, boolean on) {
        Controller controller = controllerOf(crossing);
        if (controller == null || !isInput(input)) {
            return false;
        }
        controller.inputs.turn(input, on);
        return true;
    }

    public boolean plan(int plan, int cycle, int offset, int split) {
        if (!plans.make(plan, cycle, offset, split)) {
            return false;
        }
        controller0.link.fitTo(plan, cycle);
        controller1.link.fitTo(plan, cycle);
        return true;
    }

    public boolean message(int crossing, int number, int plan) {
        Controller controller = controllerOf(crossing);
        if (controller == null || !plans.isMade(plan) || !controller.link.expects(number)) {
            return false;
        }
        controller.link.take(number, plan, plans.cycleOf(plan));
        return true;
    }

    public boolean fault(int crossing, int phase, int fault) {
        Controller controller = controllerOf(crossing);
        if (controller == null || !isPhase(phase) || fault < 0 || fault > YELLOW_IS_DARK) {
            return false;
        }
        controller.faults[phase] = fault;
        return true;
    }

    public boolean reset(int crossing) {
        Controller controller = controllerOf(crossing);
        if (controller == null || controller.whyFlashing == 0) {
            return false;
        }
        controller.start();
        return true;
    }

    public int tick(int n) throws IllegalArgumentException {
        if (n < 0 || n > MOST_TICKS) {
            throw new IllegalArgumentException("n is not 0 .. 20");
        }
        for (int i = 0; i < n; i++) {
            controller0.pass(plans, clock);
            controller1.pass(plans, clock);
            clock++;
        }
        return clock;
    }

    public int lamp(int crossing, int phase) {
        Controller controller = controllerOf(crossing);
        return controller == null || !isPhase(phase) ? NONE : controller.lampsOf(phase);
    }

    public int signs(int crossing, int phase) {
        Controller controller = controllerOf(crossing);
        return controller == null || !isPhase(phase) ? NONE : controller.signsOf(phase);
    }

    public int crossing(int crossing, int what) {
        Controller controller = controllerOf(crossing);
        if (controller == null) {
            return NONE;
        }
        switch (what) {
            case 0: return controller.side;
            case 1: return controller.way();
            case 2: return controller.whyFlashing;
            case 3: return controller.link.plan;
            case 4: return controller.link.shownClock();
            case 5: return controller.ring0.phase;
            case 6: return controller.ring1.phase;
            default: return NONE;
        }
    }

    public float occupancy(int crossing, int phase) {
        Controller controller = controllerOf(crossing);
        return controller == null || !isPhase(phase) ? 0f : controller.detectors.occupancies[phase];
    }

    private Controller controllerOf(int crossing) {
        if (crossing == 0) {
            return controller0;
        }
        return crossing == 1 ? controller1 : null;
    }

    private static boolean isPhase(int phase) {
        return phase >= 0 && phase < PHASES;
    }

    private static boolean isInput(int input) {
        return input >= 0 && input < INPUTS;
    }

    private static int ringOf(int phase) {
        return phase < PHASES_OF_A_RING ? 0 : 1;
    }

    private static int sideOf(int phase) {
        return phase / PHASES_OF_A_SIDE % SIDES;
    }

    private static int phasesOfSide(int side) {
        return side == 0 ? SIDE_0_PHASES : SIDE_1_PHASES;
    }

    /** Sets of phases are kept as bits; NONE is in no set. */
    private static int bit(int phase) {
        return phase >= 0 && phase < PHASES ? 1 << phase : 0;
    }

    private static int wrap(int value, int cycle) {
        return cycle > 0 ? Math.floorMod(value, cycle) : 0;
    }

    /** The times of each phase. */
    private static final class Table {
        private final int[] entries = new int[PHASES * ENTRIES];

        int at(int phase, int what) {
            int index = phase * ENTRIES + what;
            return index >= 0 && index < entries.length ? entries[index] : 0;
        }

        void write(int phase, int what, int v) {
            int index = phase * ENTRIES + what;
            if (index >= 0 && index < entries.length) {
                entries[index] = v;
            }
        }

        void copyFrom(Table other) {
            System.arraycopy(other.entries, 0, entries, 0, entries.length);
        }

        boolean isUsed(int phase) {
            return at(phase, MIN) != 0;
        }

        int used() {
            int used = 0;
            for (int phase = 0; phase < PHASES; phase++) {
                if (isUsed(phase)) {
                    used |= bit(phase);
                }
            }
            return used;
        }

        int wrongPlace() {
            for (int phase = 0; phase < PHASES; phase++) {
                for (int what = 0; what < ENTRIES; what++) {
                    if (isUsed(phase) && !isRight(phase, what)) {
                        return phase * ENTRIES + what;
                    }
                }
            }
            if ((used() & SIDE_0_PHASES) == 0) {
                return WRONG_SIDE;
            }
            return (used() & SIDE_1_PHASES) == 0 ? WRONG_SIDE + 1 : NONE;
        }

        private boolean isRight(int phase, int what) {
            int v = at(phase, what);
            boolean walks = at(phase, WALK_TIME) != 0;
            switch (what) {
                case MIN: return v <= 30;
                case PASSAGE: return v <= 10;
                case MAX: return v >= at(phase, MIN) && v <= 60;
                case YELLOW_TIME: return v >= 3 && v <= 6;
                case RED_TIME: return v <= 4;
                case WALK_TIME: return v <= 20;
                case CLEAR_TIME: return walks ? v >= 1 && v <= 20 : v == 0;
                default: return v < RECALL_TO_WALK || v == RECALL_TO_WALK && walks;
            }
        }
    }

    /** The detectors of a crossing: they go on while it is OFF or flashes. */
    private static final class Detectors {
        private static final int LONGEST = 100;
        private static final int FAILS = 60;

        private final int[] onTimes = new int[PHASES];
        private final float[] occupancies = new float[PHASES];
        private int on = 0;
        private int failed = 0;

        void turn(int phase, boolean isOn) {
            on = isOn ? on | bit(phase) : on & ~bit(phase);
        }

        void pass() {
            failed = 0;
            for (int phase = 0; phase < PHASES; phase++) {
                boolean isOn = (on & bit(phase)) != 0;
                onTimes[phase] = isOn ? Math.min(onTimes[phase] + 1, LONGEST) : 0;
                if (onTimes[phase] >= FAILS) {
                    failed |= bit(phase);
                }
                float kept = occupancies[phase] * 0.875f;
                occupancies[phase] = isOn ? kept + 0.125f : kept;
            }
        }

        boolean calls(int phase) {
            return ((on | failed) & bit(phase)) != 0;
        }

        /** A failed detector calls for its phase, but no longer keeps it green. */
        boolean extendsGreen(int phase) {
            return (on & ~failed & bit(phase)) != 0;
        }
    }

    /** The plans that the master can name. */
    private static final class Plans {
        private final int[] cycles = new int[PLANS];
        private final int[] offsets = new int[PLANS];
        private final int[] splits = new int[PLANS];

        boolean make(int plan, int cycle, int offset, int split) {
            boolean isRight = plan >= 0 && plan < PLANS && cycle >= 20 && cycle <= 120
                && offset >= 0 && offset < cycle && split >= 1 && split < cycle;
            if (isRight) {
                cycles[plan] = cycle;
                offsets[plan] = offset;
                splits[plan] = split;
            }
            return isRight;
        }

        boolean isMade(int plan) {
            return plan >= 0 && plan < PLANS && cycles[plan] != 0;
        }

        int cycleOf(int plan) {
            return isMade(plan) ? cycles[plan] : 0;
        }

        int offsetOf(int plan) {
            return isMade(plan) ? offsets[plan] : 0;
        }

        int splitOf(int plan) {
            return isMade(plan) ? splits[plan] : 0;
        }
    }

    /** What a crossing has of the master: its plan, and how long ago it heard of it. */
    private static final class Link {
        private static final int LONGEST_SILENCE = 30;
        private static final int TICKS_TO_PUT_RIGHT = 5;

        private int plan = NONE;
        private int localClock = 0;
        private int silence = 0;
        private int lastNumber = NONE;

        boolean expects(int number) {
            if (number < 0 || number >= NUMBERS) {
                return false;
            }
            return lastNumber == NONE || number == (lastNumber + 1) % NUMBERS;
        }

        void take(int number, int newPlan, int cycle) {
            localClock = plan == NONE ? 0 : wrap(localClock, cycle);
            plan = newPlan;
            lastNumber = number;
            silence = 0;
        }

        void fitTo(int changedPlan, int cycle) {
            if (plan == changedPlan) {
                localClock = wrap(localClock, cycle);
            }
        }

        void pass(Plans plans, int clock) {
            if (plan == NONE) {
                return;
            }
            silence++;
            if (silence >= LONGEST_SILENCE) {
                plan = NONE;
                return;
            }
            int cycle = plans.cycleOf(plan);
            localClock = wrap(localClock + 1, cycle);
            if (clock % TICKS_TO_PUT_RIGHT == 0) {
                int behind = wrap(clock - plans.offsetOf(plan) - localClock, cycle);
                localClock = wrap(localClock + shorterWay(behind, cycle), cycle);
            }
        }

        private static int shorterWay(int behind, int cycle) {
            if (behind == 0) {
                return 0;
            }
            return behind <= cycle - behind ? 1 : -1;
        }

        int shownClock() {
            return plan == NONE ? NONE : localClock;
        }

        boolean isBeforeSplit(Plans plans) {
            return plan != NONE && localClock < plans.splitOf(plan);
        }
    }

    /** The inputs of greater right of a crossing. */
    private static final class Inputs {
        private final boolean[] on = new boolean[INPUTS];
        private final int[] targets = {NONE, NONE};

        void turn(int input, boolean isOn) {
            if (isInput(input)) {
                on[input] = isOn;
            }
        }

        void aim(int input, int phase) {
            if (isInput(input)) {
                targets[input] = phase;
            }
        }

        /** Input 0 hides input 1 even where its own target isn't used. */
        int targetInForce(int used) {
            int target = NONE;
            if (on[0]) {
                target = targets[0];
            } else if (on[1]) {
                target = targets[1];
            }
            return (used & bit(target)) != 0 ? target : NONE;
        }
    }

    /** A ring: the phase that it has, NONE while it waits, and that phase's times. */
    private static final class Ring {
        private int phase = NONE;
        private int next = NONE;
        private int forward = NONE;
        private boolean wanted = false;
        private int lamps = 0;
        private int age = 0;
        private int against = 0;
        private int gap = 0;
        private int walkSign = 0;
        private int walkAge = 0;

        boolean waits() {
            return phase == NONE;
        }

        boolean isGreen() {
            return lamps == GREEN;
        }

        /** Whether it is green, at least this old, and nobody walks. */
        boolean mayEnd(int min) {
            return lamps == GREEN && walkSign == 0 && age >= min;
        }

        int greenPhase() {
            return lamps == GREEN ? bit(phase) : 0;
        }

        /** The other phase of its side, if that comes before its own, as a set. */
        int phaseBefore() {
            return waits() || phase % PHASES_OF_A_SIDE == 0 ? 0 : bit(phase - 1);
        }

        /** The other phase of its side, if that comes behind its own, as a set. */
        int phaseBehind() {
            return waits() || phase % PHASES_OF_A_SIDE != 0 ? 0 : bit(phase + 1);
        }

        void rest() {
            phase = NONE;
            next = NONE;
            lamps = 0;
            walkSign = 0;
        }

        void begin(int newPhase, int newGap) {
            phase = newPhase;
            next = NONE;
            against = 0;
            gap = newGap;
            walkSign = 0;
            show(GREEN);
        }

        void turnYellow(int newNext) {
            next = newNext;
            show(YELLOW);
        }

        void show(int newLamps) {
            lamps = newLamps;
            age = 0;
        }

        void beginWalk() {
            walkSign = WALK_SIGN;
            walkAge = 0;
        }

        void beginClear() {
            walkSign = CLEAR_SIGN;
            walkAge = 0;
        }

        void passWalk(int walkTime, int clearTime) {
            walkAge++;
            if (walkSign == WALK_SIGN && walkAge >= walkTime) {
                beginClear();
            } else if (walkSign == CLEAR_SIGN && walkAge >= clearTime) {
                walkSign = 0;
            }
        }
    }

    /** The monitor: it is told nothing but the lamps that are shown. */
    private static final class Monitor {
        private static final int CONFLICT = 1;
        private static final int DARK = 2;
        private static final int SHORT = 3;
        private static final int LEAST_YELLOW = 3;

        private final int[] shown = new int[PHASES];
        private final int[] shownBefore = new int[PHASES];
        private final int[] yellowTicks = new int[PHASES];
        private boolean sawBefore = false;

        void beginAnew() {
            sawBefore = false;
            for (int phase = 0; phase < PHASES; phase++) {
                shownBefore[phase] = 0;
                yellowTicks[phase] = 0;
            }
        }

        void see(int phase, int lamps) {
            if (isPhase(phase)) {
                shown[phase] = lamps;
            }
        }

        int look(int used) {
            int found = 0;
            if (seesConflict(used)) {
                found = CONFLICT;
            } else if (seesDark(used)) {
                found = DARK;
            } else if (seesShort(used)) {
                found = SHORT;
            }
            remember();
            return found;
        }

        private boolean seesConflict(int used) {
            for (int one = 0; one < PHASES; one++) {
                for (int other = one + 1; other < PHASES; other++) {
                    boolean bothUsed = (used & bit(one)) != 0 && (used & bit(other)) != 0;
                    if (bothUsed && goes(shown[one]) && goes(shown[other]) && !goTogether(one, other)) {
                        return true;
                    }
                }
            }
            return false;
        }

        private boolean seesDark(int used) {
            for (int phase = 0; phase < PHASES; phase++) {
                boolean isUsed = (used & bit(phase)) != 0;
                if (isUsed && sawBefore && shown[phase] == 0 && shownBefore[phase] == 0) {
                    return true;
                }
            }
            return false;
        }

        private boolean seesShort(int used) {
            for (int phase = 0; phase < PHASES; phase++) {
                boolean stops = goes(shownBefore[phase]) && !goes(shown[phase]);
                if ((used & bit(phase)) != 0 && stops && yellowTicks[phase] < LEAST_YELLOW) {
                    return true;
                }
            }
            return false;
        }

        private void remember() {
            sawBefore = true;
            for (int phase = 0; phase < PHASES; phase++) {
                shownBefore[phase] = shown[phase];
                if ((shown[phase] & GREEN) != 0) {
                    yellowTicks[phase] = 0;
                } else if ((shown[phase] & YELLOW) != 0) {
                    yellowTicks[phase]++;
                }
            }
        }

        private static boolean goes(int lamps) {
            return (lamps & (YELLOW | GREEN)) != 0;
        }

        private static boolean goTogether(int one, int other) {
            return ringOf(one) != ringOf(other) && sideOf(one) == sideOf(other);
        }
    }

    /** The controller of one crossing, with all that belongs to it. */
    private static final class Controller {
        private final Table written = new Table();
        private final Table table = new Table();
        private final Detectors detectors = new Detectors();
        private final Link link = new Link();
        private final Inputs inputs = new Inputs();
        private final Monitor monitor = new Monitor();
        private final Ring ring0 = new Ring();
        private final Ring ring1 = new Ring();
        private final int[] faults = new int[PHASES];
        private int wrongPlace = NONE;
        private int used = 0;
        private int whyFlashing = 0;
        private int side = 0;
        private int calls = 0;
        private int walkCalls = 0;
        private boolean hadInput = false;

        boolean takeWrittenTable() {
            wrongPlace = written.wrongPlace();
            if (wrongPlace != NONE) {
                return false;
            }
            table.copyFrom(written);
            used = table.used();
            start();
            return true;
        }

        /** A table that is enacted always has a used phase. */
        boolean isOff() {
            return used == 0;
        }

        void start() {
            whyFlashing = 0;
            ring0.rest();
            ring1.rest();
            side = 1;
            calls = used;
            walkCalls = 0;
            monitor.beginAnew();
        }

        boolean takeButton(int phase) {
            boolean walks = (used & bit(phase)) != 0 && table.at(phase, WALK_TIME) != 0;
            if (whyFlashing != 0 || !walks) {
                return false;
            }
            walkCalls |= bit(phase);
            return true;
        }

        void pass(Plans plans, int clock) {
            detectors.pass();
            link.pass(plans, clock);
            if (isOff() || whyFlashing != 0) {
                return;
            }
            passCalls();
            passTimes(ring0);
            passTimes(ring1);
            int target = inputs.targetInForce(used);
            if (target != NONE) {
                goByInput(target);
            } else {
                goByCalls(link.isBeforeSplit(plans));
            }
            watch();
        }

        private void passCalls() {
            for (int phase = 0; phase < PHASES; phase++) {
                Ring ring = ring(ringOf(phase));
                if (ring.isGreen() && ring.phase == phase) {
                    passGap(ring);
                } else if ((used & bit(phase)) != 0) {
                    noteCalls(phase);
                }
            }
        }

        private void passGap(Ring ring) {
            int phase = ring.phase;
            if (detectors.extendsGreen(phase) || table.at(phase, RECALL) == RECALL_TO_MAX) {
                ring.gap = table.at(phase, PASSAGE);
            } else if (ring.gap != 0) {
                ring.gap--;
            }
        }

        private void noteCalls(int phase) {
            int recall = table.at(phase, RECALL);
            if (detectors.calls(phase) || recall == RECALL_TO_MIN || recall == RECALL_TO_MAX) {
                calls |= bit(phase);
            }
            if (recall == RECALL_TO_WALK) {
                walkCalls |= bit(phase);
            }
        }

        private void passTimes(Ring ring) {
            if (ring.waits()) {
                return;
            }
            ring.age++;
            if (ring.isGreen()) {
                ring.passWalk(table.at(ring.phase, WALK_TIME), table.at(ring.phase, CLEAR_TIME));
                weigh(ring, countingCalls());
                if (ring.wanted && inputs.targetInForce(used) == NONE) {
                    ring.against++;
                }
                return;
            }
            if (ring.lamps == YELLOW && ring.age >= table.at(ring.phase, YELLOW_TIME)) {
                ring.show(RED);
            }
            if (ring.lamps == RED && ring.age >= table.at(ring.phase, RED_TIME)) {
                end(ring);
            }
        }

        /** What is wanted of a ring, if there is no input of greater right. */
        private void weigh(Ring ring, int counting) {
            int before = ring0.phaseBefore() | ring1.phaseBefore();
            boolean needed = (counting & (phasesOfSide(1 - side) | before)) != 0;
            ring.forward = (counting & ring.phaseBehind()) != 0 ? ring.phase + 1 : NONE;
            ring.wanted = needed || ring.forward != NONE;
        }

        private void end(Ring ring) {
            if (ring.next == NONE) {
                ring.rest();
            } else {
                begin(ring, ring.next);
            }
        }

        private void begin(Ring ring, int phase) {
            boolean extended = detectors.extendsGreen(phase);
            ring.begin(phase, extended ? table.at(phase, PASSAGE) : 0);
            calls &= ~bit(phase);
            boolean called = (walkCalls & bit(phase)) != 0 || table.at(phase, RECALL) == RECALL_TO_WALK;
            if (called && table.at(phase, WALK_TIME) != 0) {
                beginWalk(ring);
            }
        }

        private void beginWalk(Ring ring) {
            ring.beginWalk();
            walkCalls &= ~bit(ring.phase);
        }

        private void goByCalls(boolean beforeSplit) {
            boolean held = beforeSplit && side == 0;
            boolean forced = beforeSplit && side == 1;
            if (hadInput) {
                hadInput = false;
                calls |= used & ~greenPhases();
            }
            // Both are weighed first: what one ring does here changes nothing that is wanted of the other.
            int counting = countingCalls();
            weigh(ring0, counting);
            weigh(ring1, counting);
            goOn(ring0, forced);
            goOn(ring1, forced);
            if (!held && mayLeave(ring0, forced) && mayLeave(ring1, forced)) {
                leaveSide();
            }
            if (ring0.waits() && ring1.waits() && counting != 0) {
                cross(counting);
            }
        }

        private void goOn(Ring ring, boolean forced) {
            boolean mayWalk = ring.isGreen() && ring.walkSign == 0 && !ring.wanted;
            if (mayWalk && (walkCalls & bit(ring.phase)) != 0) {
                beginWalk(ring);
            }
            if (isDone(ring, forced) && ring.forward != NONE) {
                ring.turnYellow(ring.forward);
            }
        }

        private boolean mayLeave(Ring ring, boolean forced) {
            return ring.waits() || isDone(ring, forced) && ring.forward == NONE;
        }

        private boolean isDone(Ring ring, boolean forced) {
            if (!ring.wanted || !ring.mayEnd(table.at(ring.phase, MIN))) {
                return false;
            }
            return forced || ring.gap == 0 || ring.against >= table.at(ring.phase, MAX);
        }

        private void leaveSide() {
            for (int number = 0; number < RINGS; number++) {
                Ring ring = ring(number);
                if (ring.isGreen()) {
                    ring.turnYellow(NONE);
                }
            }
        }

        private void cross(int counting) {
            if ((counting & phasesOfSide(1 - side)) != 0) {
                side = 1 - side;
            }
            for (int number = 0; number < RINGS; number++) {
                int called = firstOfSide(number, counting);
                int first = called != NONE ? called : firstOfSide(number, used);
                if (first != NONE) {
                    begin(ring(number), first);
                }
            }
        }

        private int firstOfSide(int number, int phases) {
            int first = number * PHASES_OF_A_RING + side * PHASES_OF_A_SIDE;
            if ((phases & bit(first)) != 0) {
                return first;
            }
            return (phases & bit(first + 1)) != 0 ? first + 1 : NONE;
        }

        private void goByInput(int target) {
            hadInput = true;
            boolean here = sideOf(target) == side;
            for (int number = 0; number < RINGS; number++) {
                giveWay(ring(number), goalOf(number, target), here);
            }
            if (!here && mayLeaveByInput(ring0) && mayLeaveByInput(ring1)) {
                leaveSide();
            }
            if (ring0.waits() && ring1.waits()) {
                side = sideOf(target);
            }
            for (int number = 0; number < RINGS; number++) {
                int goal = goalOf(number, target);
                if (ring(number).waits() && goal != NONE && sideOf(goal) == side) {
                    begin(ring(number), goal);
                }
            }
        }

        private void giveWay(Ring ring, int goal, boolean here) {
            if (ring.walkSign == WALK_SIGN) {
                ring.beginClear();
            }
            if (here && goal != NONE && ring.phase != goal && ring.mayEnd(table.at(ring.phase, MIN))) {
                ring.turnYellow(goal);
            }
        }

        /** Asked where the target is on the other side, so that a ring can't be at its goal. */
        private boolean mayLeaveByInput(Ring ring) {
            return ring.waits() || ring.mayEnd(table.at(ring.phase, MIN));
        }

        private int goalOf(int number, int target) {
            if (ringOf(target) == number) {
                return target;
            }
            int twin = (target + PHASES_OF_A_RING) % PHASES;
            return (used & bit(twin)) != 0 ? twin : NONE;
        }

        private void watch() {
            for (int phase = 0; phase < PHASES; phase++) {
                monitor.see(phase, lampsOf(phase));
            }
            int found = monitor.look(used);
            if (found != 0) {
                whyFlashing = found;
                ring0.rest();
                ring1.rest();
                calls = 0;
                walkCalls = 0;
            }
        }

        int lampsOf(int phase) {
            if (!isPhase(phase) || (used & bit(phase)) == 0) {
                return 0;
            }
            if (whyFlashing != 0) {
                return FLASH;
            }
            Ring ring = ring(ringOf(phase));
            int lamps = ring.phase == phase ? ring.lamps : RED;
            switch (faults[phase]) {
                case RED_IS_DARK: return lamps & ~RED;
                case GREEN_BURNS: return lamps | GREEN;
                case YELLOW_IS_DARK: return lamps & ~YELLOW;
                default: return lamps;
            }
        }

        int signsOf(int phase) {
            Ring ring = ring(ringOf(phase));
            int signs = ring.phase == phase ? ring.walkSign : 0;
            if ((calls & bit(phase)) != 0) {
                signs |= CALL_SIGN;
            }
            if ((walkCalls & bit(phase)) != 0) {
                signs |= WALK_CALL_SIGN;
            }
            return (detectors.failed & bit(phase)) != 0 ? signs | FAILED_SIGN : signs;
        }

        int way() {
            if (isOff()) {
                return IS_OFF;
            }
            if (whyFlashing != 0) {
                return FLASHES;
            }
            if (inputs.targetInForce(used) != NONE) {
                return GOES_BY_INPUT;
            }
            return link.plan != NONE ? GOES_BY_PLAN : GOES_FREE;
        }

        private int countingCalls() {
            return (calls | walkCalls) & ~greenPhases();
        }

        private int greenPhases() {
            return ring0.greenPhase() | ring1.greenPhase();
        }

        private Ring ring(int number) {
            return number == 0 ? ring0 : ring1;
        }
    }
}
