/** Six digits of seven segments and a dot each, lit in turn, and what a viewer sees of them. */
public final class LitDigits {
    public static final int NONE = -1;

    private static final int SLOTS = 6;
    private static final int SEGMENTS = 8;
    private static final int DOT = 7;
    private static final int DOT_MASK = 128;
    private static final int SIGN_SEGMENTS = 127;

    private static final int SIGNS = 18;
    private static final int NOTHING = 17;
    private static final int[] SIGN_MASKS = {
        63, 6, 91, 79, 102, 109, 125, 7, 127, 111, 119, 124, 57, 94, 121, 113, 64, 0
    };
    private static final String SIGN_CODES = "0123456789ABCDEF-_";
    private static final char DOT_CODE = '.';
    private static final char UNREAD_CODE = '?';

    private static final int SETTINGS = 4;
    private static final int DARK = 0;
    private static final int POWER = 1;
    private static final int FADING = 2;
    private static final int SEEN = 3;
    private static final int[] FIRST_SETTINGS = {1, 840, 4, 10};
    private static final int[] LEAST_SETTINGS = {0, 1, 1, 1};
    private static final int[] MOST_SETTINGS = {3, 2000, 16, 500};

    private static final int FIRST_TIME = 2;
    private static final int MOST_TIME = 20;
    private static final int LEAST_BALANCED = 6;
    private static final int MOST_BALANCED = 60;
    private static final int MOST_TICKS_A_PASS = 200;
    private static final int MOST_TICKS = 99999;
    private static final int ROUNDS_SEEN = 8;
    private static final int ABOVE_ALL_GLOWS = 1 << 30;

    private static final int MOST_CODES = 12;
    private static final int LEAST_CODE = 33;
    private static final int MOST_CODE = 126;

    private static final int SNAPSHOTS = 2;
    private static final int MOST_SAVED = 6;

    private static final int SLOT_PROPERTIES = 10;
    private static final int SEEN_PROPERTIES = 6;
    private static final int SEGMENT_PROPERTIES = 4;
    private static final int COUNTS = 13;
    private static final int DIGEST_START = 3347;
    private static final int DIGEST_BALANCED = 20;
    private static final int DIGEST_TIMED = 5;

    private final Eye eye;
    private final State now;
    private final Eye supposedEye;
    private final Balance balanced;
    private final Turn turn;
    private final Text buffer;
    private final State[] snapshots;
    private final boolean[] snapshotTaken;
    private final State[] saved;
    private int savedCount;
    private int nextSaved;

    /** All rows are made here and used again, so that no later call needs room. */
    public LitDigits() {
        eye = new Eye();
        now = eye.state;
        supposedEye = new Eye();
        balanced = new Balance();
        turn = new Turn();
        buffer = new Text();
        snapshots = new State[SNAPSHOTS];
        for (int i = 0; i < SNAPSHOTS; i++) {
            snapshots[i] = new State();
        }
        snapshotTaken = new boolean[SNAPSHOTS];
        saved = new State[MOST_SAVED];
        for (int i = 0; i < MOST_SAVED; i++) {
            saved[i] = new State();
        }
    }

    // ---- signs, segments

    public int show(int slot, int sign) throws IndexOutOfBoundsException, IllegalArgumentException {
        checkSlot(slot);
        if (sign < 0 || sign >= SIGNS) {
            throw new IllegalArgumentException("a sign is 0 to 17");
        }
        saveState();
        int before = now.signs[slot];
        now.signs[slot] = sign;
        return before;
    }

    public int dot(int slot) throws IndexOutOfBoundsException {
        checkSlot(slot);
        saveState();
        now.dots ^= 1 << slot;
        return bit(now.dots, slot);
    }

    public int burn(int slot, int segment) throws IndexOutOfBoundsException {
        checkSlot(slot);
        checkSegment(segment);
        saveState();
        now.burnt[slot] ^= 1 << segment;
        return bit(now.burnt[slot], segment);
    }

    public int cut(int segment) throws IndexOutOfBoundsException {
        checkSegment(segment);
        saveState();
        now.cutLines ^= 1 << segment;
        return bit(now.cutLines, segment);
    }

    // ---- times

    public int time(int slot, int time) throws IndexOutOfBoundsException, IllegalArgumentException {
        checkSlot(slot);
        checkTime(time);
        saveState();
        int before = now.times[slot];
        now.times[slot] = time;
        now.position = 0;
        return before;
    }

    public int balance(int ticks) throws IllegalArgumentException, IllegalStateException {
        checkBalanced(ticks);
        int together = balanced.spread(now, ticks);
        if (together == 0) {
            throw new IllegalStateException("no slot has a segment that works");
        }
        saveState();
        for (int slot = 0; slot < SLOTS; slot++) {
            now.times[slot] = balanced.times[slot];
        }
        now.position = 0;
        return together;
    }

    public int set(int setting, int value) throws IndexOutOfBoundsException, IllegalArgumentException {
        checkSetting(setting);
        if (value < LEAST_SETTINGS[setting] || value > MOST_SETTINGS[setting]) {
            throw new IllegalArgumentException("the value is out of the setting's range");
        }
        saveState();
        int before = now.settings[setting];
        now.settings[setting] = value;
        now.position = 0;
        return before;
    }

    public int pass(int ticks) throws IllegalArgumentException, IllegalStateException {
        if (ticks < 1 || ticks > MOST_TICKS_A_PASS) {
            throw new IllegalArgumentException("ticks are 1 to 200");
        }
        int length = now.roundTicks();
        if (length < 1) {
            throw new IllegalStateException("a round has no ticks");
        }
        if (now.ticks + ticks > MOST_TICKS) {
            throw new IllegalStateException("no more than 99999 ticks go by");
        }
        saveState();
        fadeAndLight(ticks);
        int ended = (now.position + ticks) / length;
        now.position = (now.position + ticks) % length;
        now.ticks += ticks;
        now.rounds += ended;
        return ended;
    }

    // ---- texts, snapshots

    public int append(int code) throws IllegalArgumentException, IllegalStateException {
        if (code < LEAST_CODE || code > MOST_CODE) {
            throw new IllegalArgumentException("a character code is 33 to 126");
        }
        if (buffer.length >= MOST_CODES) {
            throw new IllegalStateException("the buffer is full");
        }
        buffer.put((char) code);
        return buffer.length;
    }

    public int clearBuffer() {
        int before = buffer.length;
        buffer.length = 0;
        return before;
    }

    public int firstError() {
        return buffer.errorAt();
    }

    public int load() throws IllegalArgumentException {
        if (buffer.length == 0 || buffer.errorAt() < buffer.length) {
            throw new IllegalArgumentException("the buffer does not tell a display");
        }
        saveState();
        int signs = buffer.putOn(now);
        buffer.length = 0;
        return signs;
    }

    public int write() {
        buffer.length = 0;
        for (int slot = 0; slot < SLOTS; slot++) {
            eye.look(slot);
            buffer.put(codeOf(eye.readAs(slot)));
            if (bit(eye.seen(slot), DOT) == 1) {
                buffer.put(DOT_CODE);
            }
        }
        return buffer.length;
    }

    public int keep(int slot) throws IllegalArgumentException {
        checkSnapshot(slot);
        snapshots[slot].copyFrom(now);
        snapshotTaken[slot] = true;
        return now.ticks;
    }

    public int goBack(int slot) throws IllegalArgumentException, IllegalStateException {
        checkSnapshot(slot);
        if (!snapshotTaken[slot]) {
            throw new IllegalStateException("there is no snapshot in the slot");
        }
        saveState();
        now.copyFrom(snapshots[slot]);
        return now.ticks;
    }

    public int undo() throws IllegalStateException {
        if (savedCount < 1) {
            throw new IllegalStateException("there is no saved state");
        }
        nextSaved = nextSaved > 0 ? nextSaved - 1 : MOST_SAVED - 1;
        savedCount--;
        now.copyFrom(saved[nextSaved]);
        eye.forget();
        return savedCount;
    }

    // ---- looks; nothing is changed

    public int slotOf(int slot, int what) throws IndexOutOfBoundsException, IllegalArgumentException {
        checkSlot(slot);
        checkWhat(what, SLOT_PROPERTIES);
        return slotProperty(slot, what);
    }

    public int segmentOf(int slot, int segment, int what) throws IndexOutOfBoundsException, IllegalArgumentException {
        checkSlot(slot);
        checkSegment(segment);
        checkWhat(what, SEGMENT_PROPERTIES);
        return segmentProperty(slot, segment, what);
    }

    public int count(int what) throws IllegalArgumentException {
        checkWhat(what, COUNTS);
        return number(what);
    }

    public int setting(int setting) throws IndexOutOfBoundsException {
        checkSetting(setting);
        return now.settings[setting];
    }

    // ---- what would be; nothing is changed

    public int couldBe(int slot, int what) throws IndexOutOfBoundsException, IllegalArgumentException {
        checkSlot(slot);
        checkWhat(what, 2);
        return what == 0 ? alikeSigns(slot) : lowestAlike(slot);
    }

    public int ifTimed(int slot, int time) throws IndexOutOfBoundsException, IllegalArgumentException {
        checkSlot(slot);
        checkTime(time);
        return meanIfTimed(slot, time);
    }

    public int ifBalanced(int ticks, int slot) throws IndexOutOfBoundsException, IllegalArgumentException {
        checkSlot(slot);
        checkBalanced(ticks);
        return timeIfBalanced(ticks, slot);
    }

    public int safest(int slot) throws IndexOutOfBoundsException {
        checkSlot(slot);
        return leastHurt(slot);
    }

    public double litShare() {
        int length = now.roundTicks();
        return length > 0 ? (double) now.litTicks() / (double) length : 0.0;
    }

    public float meanBrightness() {
        int sum = 0;
        int slots = 0;
        for (int slot = 0; slot < SLOTS; slot++) {
            if (now.works(slot) != 0) {
                eye.look(slot);
                sum += eye.mean(slot);
                slots++;
            }
        }
        return slots > 0 ? (float) sum / (float) slots : 0.0f;
    }

    public long digest() {
        long hash = DIGEST_START;
        for (int what = 0; what < COUNTS; what++) {
            hash = 31 * hash + number(what);
        }
        for (int setting = 0; setting < SETTINGS; setting++) {
            hash = 31 * hash + now.settings[setting];
        }
        for (int slot = 0; slot < SLOTS; slot++) {
            hash = hashWithSlot(hash, slot);
        }
        hash = 31 * hash + meanIfTimed(0, DIGEST_TIMED);
        hash = 31 * hash + bitsOf(litShare(), 1023, 52);
        hash = 31 * hash + bitsOf((double) meanBrightness(), 127, 23);
        for (int i = 0; i < SNAPSHOTS; i++) {
            hash = 31 * hash + (snapshotTaken[i] ? 1 : 0);
        }
        hash = 31 * hash + buffer.length;
        for (int i = 0; i < MOST_CODES && i < buffer.length; i++) {
            hash = 31 * hash + buffer.codes[i];
        }
        return hash;
    }

    // ---- arguments

    private static void checkSlot(int slot) {
        if (slot < 0 || slot >= SLOTS) {
            throw new IndexOutOfBoundsException("a slot is 0 to 5");
        }
    }

    private static void checkSegment(int segment) {
        if (segment < 0 || segment >= SEGMENTS) {
            throw new IndexOutOfBoundsException("a segment is 0 to 7");
        }
    }

    private static void checkSetting(int setting) {
        if (setting < 0 || setting >= SETTINGS) {
            throw new IndexOutOfBoundsException("a setting is 0 to 3");
        }
    }

    private static void checkTime(int time) {
        if (time < 0 || time > MOST_TIME) {
            throw new IllegalArgumentException("a time is 0 to 20");
        }
    }

    private static void checkBalanced(int ticks) {
        if (ticks < LEAST_BALANCED || ticks > MOST_BALANCED) {
            throw new IllegalArgumentException("ticks to balance are 6 to 60");
        }
    }

    private static void checkSnapshot(int slot) {
        if (slot < 0 || slot >= SNAPSHOTS) {
            throw new IllegalArgumentException("a slot for snapshots is 0 or 1");
        }
    }

    private static void checkWhat(int what, int properties) {
        if (what < 0 || what >= properties) {
            throw new IllegalArgumentException("there is no such property");
        }
    }

    // ---- changes

    /** Every change but undo begins here, so this is also where what was seen is forgotten. */
    private void saveState() {
        saved[nextSaved].copyFrom(now);
        nextSaved = nextSaved < MOST_SAVED - 1 ? nextSaved + 1 : 0;
        savedCount = Math.min(savedCount + 1, MOST_SAVED);
        eye.forget();
    }

    /** Segments do not touch one another's glows, so each goes through all the ticks by itself. */
    private void fadeAndLight(int ticks) {
        for (int slot = 0; slot < SLOTS; slot++) {
            turn.take(now, slot);
            for (int segment = 0; segment < SEGMENTS; segment++) {
                int glow = now.glows[slot * SEGMENTS + segment];
                now.glows[slot * SEGMENTS + segment] = turn.glowAfter(ticks, now.position, glow, segment);
            }
        }
    }

    // ---- properties

    private int slotProperty(int slot, int what) {
        if (what >= SEEN_PROPERTIES) {
            eye.look(slot);
        }
        switch (what) {
            case 0: return now.signs[slot];
            case 1: return bit(now.dots, slot);
            case 2: return now.times[slot];
            case 3: return now.burnt[slot];
            case 4: return now.works(slot);
            case 5: return now.lightFor(now.works(slot));
            case 6: return eye.seen(slot);
            case 7: return eye.readAs(slot);
            case 8: return readRight(slot) ? 1 : 0;
            default: return eye.mean(slot);
        }
    }

    private boolean readRight(int slot) {
        return eye.readAs(slot) == now.signs[slot] && bit(eye.seen(slot), DOT) == bit(now.dots, slot);
    }

    private int segmentProperty(int slot, int segment, int what) {
        int place = slot * SEGMENTS + segment;
        if (what == 0) {
            return now.glows[place];
        }
        eye.look(slot);
        switch (what) {
            case 1: return eye.brightness[place];
            case 2: return eye.greatest[place];
            default: return eye.least[place];
        }
    }

    private int number(int what) {
        switch (what) {
            case 0: return now.ticks;
            case 1: return now.roundTicks();
            case 2: return now.position;
            case 3: return now.litIn(now.position);
            case 4: return now.rounds;
            case 5: return lightByTicks();
            case 6: return lightBySlots();
            case 7: return now.cutLines;
            case 8: return workingSlots();
            case 9: return slotsReadAsTheirSigns();
            case 10: return unevenness();
            case 11: return flicker();
            default: return savedCount;
        }
    }

    private int lightByTicks() {
        int light = 0;
        int length = now.roundTicks();
        for (int tick = 0; tick < length; tick++) {
            int slot = now.litIn(tick);
            if (slot != NONE) {
                light += lightInTick(slot);
            }
        }
        return light;
    }

    private int lightBySlots() {
        int light = 0;
        for (int slot = 0; slot < SLOTS; slot++) {
            light += now.times[slot] * lightInTick(slot);
        }
        return light;
    }

    private int lightInTick(int slot) {
        int works = now.works(slot);
        return Integer.bitCount(works) * now.lightFor(works);
    }

    private int workingSlots() {
        int slots = 0;
        for (int slot = 0; slot < SLOTS; slot++) {
            if (now.works(slot) != 0) {
                slots++;
            }
        }
        return slots;
    }

    private int slotsReadAsTheirSigns() {
        int slots = 0;
        for (int slot = 0; slot < SLOTS; slot++) {
            eye.look(slot);
            if (eye.readAs(slot) == now.signs[slot]) {
                slots++;
            }
        }
        return slots;
    }

    private int unevenness() {
        int most = 0;
        int least = ABOVE_ALL_GLOWS;
        for (int slot = 0; slot < SLOTS; slot++) {
            if (now.works(slot) != 0) {
                eye.look(slot);
                int mean = eye.mean(slot);
                most = Math.max(most, mean);
                least = Math.min(least, mean);
            }
        }
        return Math.max(0, most - least);
    }

    private int flicker() {
        int most = 0;
        for (int slot = 0; slot < SLOTS; slot++) {
            int works = now.works(slot);
            eye.look(slot);
            for (int segment = 0; segment < SEGMENTS; segment++) {
                int place = slot * SEGMENTS + segment;
                if (bit(works, segment) == 1) {
                    most = Math.max(most, eye.greatest[place] - eye.least[place]);
                }
            }
        }
        return most;
    }

    // ---- what would be

    private int alikeSigns(int slot) {
        int whole = ~now.failing(slot);
        int own = maskOf(now.signs[slot]) & whole;
        int alike = 0;
        for (int sign = 0; sign < SIGNS; sign++) {
            if ((maskOf(sign) & whole) == own) {
                alike++;
            }
        }
        return alike;
    }

    private int lowestAlike(int slot) {
        int whole = ~now.failing(slot);
        int own = maskOf(now.signs[slot]) & whole;
        for (int sign = 0; sign < SIGNS; sign++) {
            if ((maskOf(sign) & whole) == own) {
                return sign;
            }
        }
        return now.signs[slot];
    }

    private int leastHurt(int slot) {
        int failing = now.failing(slot);
        int best = NOTHING;
        int bestWorks = -1;
        for (int sign = 0; sign < SIGNS; sign++) {
            int works = Integer.bitCount(maskOf(sign) & ~failing);
            if (Integer.bitCount(maskOf(sign) & failing) <= 1 && works > bestWorks) {
                best = sign;
                bestWorks = works;
            }
        }
        return best;
    }

    private int meanIfTimed(int slot, int time) {
        supposedEye.state.copyFrom(now);
        supposedEye.state.times[slot] = time;
        supposedEye.forget();
        supposedEye.look(slot);
        return supposedEye.mean(slot);
    }

    private int timeIfBalanced(int ticks, int slot) {
        int together = balanced.spread(now, ticks);
        return together == 0 ? NONE : balanced.times[slot];
    }

    private long hashWithSlot(long before, int slot) {
        long hash = before;
        for (int what = 0; what < SLOT_PROPERTIES; what++) {
            hash = 31 * hash + slotProperty(slot, what);
        }
        for (int segment = 0; segment < SEGMENTS; segment++) {
            for (int what = 0; what < SEGMENT_PROPERTIES; what++) {
                hash = 31 * hash + segmentProperty(slot, segment, what);
            }
        }
        hash = 31 * hash + alikeSigns(slot);
        hash = 31 * hash + lowestAlike(slot);
        hash = 31 * hash + timeIfBalanced(DIGEST_BALANCED, slot);
        hash = 31 * hash + leastHurt(slot);
        return hash;
    }

    /**
     * The bits of a number that is not below 0 and, above it, a normal one of its format. The language has no
     * doubleToLongBits; halving, doubling and taking 1 off are exact here, so the arithmetic tells the same bits.
     */
    private static long bitsOf(double value, int bias, int fractionBits) {
        if (value <= 0.0) {
            return 0L;
        }
        long exponent = bias;
        double part = value;
        for (int i = 0; i < bias && part >= 2.0; i++) {
            part = part / 2.0;
            exponent++;
        }
        for (int i = 0; i < bias && part < 1.0; i++) {
            part = part * 2.0;
            exponent--;
        }
        long fraction = (long) ((part - 1.0) * (double) (1L << fractionBits));
        return (exponent << fractionBits) + fraction;
    }

    // ---- signs and their characters

    private static int bit(int mask, int place) {
        return mask >> place & 1;
    }

    private static int maskOf(int sign) {
        return sign >= 0 && sign < SIGNS ? SIGN_MASKS[sign] : 0;
    }

    private static char codeOf(int sign) {
        return sign >= 0 && sign < SIGNS ? SIGN_CODES.charAt(sign) : UNREAD_CODE;
    }

    /** What a snapshot or a saved state holds: all but the buffer, the snapshots and the saved states. */
    private static final class State {
        final int[] signs = new int[SLOTS];
        final int[] burnt = new int[SLOTS];
        final int[] times = new int[SLOTS];
        final int[] glows = new int[SLOTS * SEGMENTS];
        final int[] settings = new int[SETTINGS];
        int dots;
        int cutLines;
        int ticks;
        int position;
        int rounds;

        State() {
            for (int slot = 0; slot < SLOTS; slot++) {
                signs[slot] = NOTHING;
                times[slot] = FIRST_TIME;
            }
            for (int setting = 0; setting < SETTINGS; setting++) {
                settings[setting] = FIRST_SETTINGS[setting];
            }
        }

        void copyFrom(State other) {
            System.arraycopy(other.signs, 0, signs, 0, SLOTS);
            System.arraycopy(other.burnt, 0, burnt, 0, SLOTS);
            System.arraycopy(other.times, 0, times, 0, SLOTS);
            System.arraycopy(other.glows, 0, glows, 0, SLOTS * SEGMENTS);
            System.arraycopy(other.settings, 0, settings, 0, SETTINGS);
            dots = other.dots;
            cutLines = other.cutLines;
            ticks = other.ticks;
            position = other.position;
            rounds = other.rounds;
        }

        int failing(int slot) {
            return burnt[slot] | cutLines;
        }

        int works(int slot) {
            int shown = maskOf(signs[slot]) | (bit(dots, slot) == 1 ? DOT_MASK : 0);
            return shown & ~failing(slot);
        }

        int lightFor(int works) {
            int segments = Integer.bitCount(works);
            return segments > 0 ? settings[POWER] / segments : 0;
        }

        int ticksOf(int slot) {
            return times[slot] > 0 ? settings[DARK] + times[slot] : 0;
        }

        int roundTicks() {
            int length = 0;
            for (int slot = 0; slot < SLOTS; slot++) {
                length += ticksOf(slot);
            }
            return length;
        }

        int litTicks() {
            int lit = 0;
            for (int slot = 0; slot < SLOTS; slot++) {
                lit += times[slot];
            }
            return lit;
        }

        int litIn(int tick) {
            int end = 0;
            for (int slot = 0; slot < SLOTS; slot++) {
                end += ticksOf(slot);
                if (tick < end) {
                    return tick >= end - times[slot] ? slot : NONE;
                }
            }
            return NONE;
        }

        int litAheadOf(int slot) {
            for (int back = 1; back < SLOTS; back++) {
                int other = slot >= back ? slot - back : slot - back + SLOTS;
                if (times[other] > 0) {
                    return other;
                }
            }
            return NONE;
        }
    }

    /** One slot in the course of a round: when it is lit, and what light its segments get. */
    private static final class Turn {
        private int roundTicks;
        private int begin;
        private int end;
        private int works;
        private int light;
        private int ghosts;
        private int ghostLight;
        private int fading;

        void take(State state, int slot) {
            roundTicks = state.roundTicks();
            end = 0;
            for (int other = 0; other <= slot; other++) {
                end += state.ticksOf(other);
            }
            begin = end - state.times[slot];
            works = state.works(slot);
            light = state.lightFor(works);
            fading = state.settings[FADING];
            ghosts = 0;
            ghostLight = 0;
            int ahead = state.litAheadOf(slot);
            if (state.settings[DARK] == 0 && ahead != NONE) {
                int lit = state.works(ahead);
                ghosts = lit & ~state.burnt[slot];
                ghostLight = state.lightFor(lit) / 4;
            }
        }

        int ticksOfRound() {
            return roundTicks;
        }

        int glowBehind(int tick, int glow, int segment) {
            int left = fading > 0 ? glow - glow / fading - 1 : 0;
            int result = Math.max(0, left);
            if (tick >= begin && tick < end && bit(works, segment) == 1) {
                result = Math.max(result, light);
            }
            if (tick == begin && begin < end && bit(ghosts, segment) == 1) {
                result = Math.max(result, ghostLight);
            }
            return result;
        }

        int glowAfter(int ticks, int position, int glow, int segment) {
            int result = glow;
            int tick = position;
            for (int i = 0; i < ticks; i++) {
                result = glowBehind(tick, result, segment);
                tick = tick + 1 < roundTicks ? tick + 1 : 0;
            }
            return result;
        }
    }

    /**
     * What a viewer sees of a state. A slot is looked at before anything seen of it is asked; what is seen is
     * remembered until the state changes, since one look goes through up to eight rounds.
     */
    private static final class Eye {
        final State state = new State();
        final int[] brightness = new int[SLOTS * SEGMENTS];
        final int[] greatest = new int[SLOTS * SEGMENTS];
        final int[] least = new int[SLOTS * SEGMENTS];
        private final boolean[] looked = new boolean[SLOTS];
        private final Turn turn = new Turn();

        void forget() {
            for (int slot = 0; slot < SLOTS; slot++) {
                looked[slot] = false;
            }
        }

        void look(int slot) {
            if (looked[slot]) {
                return;
            }
            turn.take(state, slot);
            for (int segment = 0; segment < SEGMENTS; segment++) {
                lookAt(slot * SEGMENTS + segment, segment);
            }
            looked[slot] = true;
        }

        private void lookAt(int place, int segment) {
            int length = turn.ticksOfRound();
            int glow = state.glows[place];
            int sum = 0;
            int most = 0;
            int fewest = 0;
            for (int round = 0; round < ROUNDS_SEEN; round++) {
                int before = glow;
                sum = 0;
                most = 0;
                fewest = length > 0 ? ABOVE_ALL_GLOWS : 0;
                for (int tick = 0; tick < length; tick++) {
                    glow = turn.glowBehind(tick, glow, segment);
                    sum += glow;
                    most = Math.max(most, glow);
                    fewest = Math.min(fewest, glow);
                }
                // a round that ends with the glow that it began with is like all that follow it
                if (glow == before) {
                    break;
                }
            }
            brightness[place] = length > 0 ? sum / length : 0;
            greatest[place] = most;
            least[place] = fewest;
        }

        int seen(int slot) {
            int mask = 0;
            for (int segment = 0; segment < SEGMENTS; segment++) {
                if (brightness[slot * SEGMENTS + segment] >= state.settings[SEEN]) {
                    mask |= 1 << segment;
                }
            }
            return mask;
        }

        int readAs(int slot) {
            int mask = seen(slot) & SIGN_SEGMENTS;
            for (int sign = 0; sign < SIGNS; sign++) {
                if (maskOf(sign) == mask) {
                    return sign;
                }
            }
            return NONE;
        }

        int mean(int slot) {
            int works = state.works(slot);
            int segments = Integer.bitCount(works);
            int sum = 0;
            for (int segment = 0; segment < SEGMENTS; segment++) {
                if (bit(works, segment) == 1) {
                    sum += brightness[slot * SEGMENTS + segment];
                }
            }
            return segments > 0 ? sum / segments : 0;
        }
    }

    /** The times by which slots with many segments get as bright as those with few. */
    private static final class Balance {
        final int[] times = new int[SLOTS];
        private final int[] segments = new int[SLOTS];

        /** Answers how many ticks the times are together, 0 if no slot has a segment that works. */
        int spread(State state, int ticks) {
            int together = 0;
            for (int slot = 0; slot < SLOTS; slot++) {
                segments[slot] = Integer.bitCount(state.works(slot));
                times[slot] = segments[slot] > 0 ? 1 : 0;
                together += times[slot];
            }
            for (int i = together; i < ticks; i++) {
                int slot = neediest();
                if (slot == NONE) {
                    break;
                }
                times[slot]++;
                together++;
            }
            return together;
        }

        private int neediest() {
            int best = NONE;
            for (int slot = 0; slot < SLOTS; slot++) {
                boolean takesMore = segments[slot] > 0 && times[slot] < MOST_TIME;
                if (takesMore && (best == NONE || needier(slot, best))) {
                    best = slot;
                }
            }
            return best;
        }

        private boolean needier(int slot, int other) {
            return times[slot] * segments[other] < times[other] * segments[slot];
        }
    }

    /** The buffer, and displays as texts. */
    private static final class Text {
        final char[] codes = new char[MOST_CODES];
        int length;

        void put(char code) {
            if (length >= 0 && length < MOST_CODES) {
                codes[length] = code;
                length++;
            }
        }

        int errorAt() {
            int signs = 0;
            boolean dotMayFollow = false;
            for (int i = 0; i < MOST_CODES && i < length; i++) {
                if (codes[i] == DOT_CODE) {
                    if (!dotMayFollow) {
                        return i;
                    }
                    dotMayFollow = false;
                } else {
                    if (signs >= SLOTS || SIGN_CODES.indexOf(codes[i]) < 0) {
                        return i;
                    }
                    signs++;
                    dotMayFollow = true;
                }
            }
            return length;
        }

        /** Asks for a text without a syntax error; answers how many signs it has. */
        int putOn(State state) {
            state.dots = 0;
            for (int slot = 0; slot < SLOTS; slot++) {
                state.signs[slot] = NOTHING;
            }
            int signs = 0;
            for (int i = 0; i < MOST_CODES && i < length; i++) {
                if (codes[i] != DOT_CODE && signs < SLOTS) {
                    state.signs[signs] = SIGN_CODES.indexOf(codes[i]);
                    signs++;
                } else if (signs > 0) {
                    state.dots |= 1 << (signs - 1);
                }
            }
            return signs;
        }
    }
}
