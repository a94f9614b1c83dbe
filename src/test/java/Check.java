/** What the tests share: answers compared, exceptions awaited, displays put into an object. */
final class Check {
    interface Call {
        long answer();
    }

    interface CallOf {
        long answer(int value);
    }

    private static int wrong = 0;
    private static String sentence = "";

    private Check() {
    }

    /** The words of the document that the answers from here on are held against; what is reported names them. */
    static void sentence(String text) {
        sentence = text;
    }

    static void due(String what, long got, long want) {
        if (got != want) {
            report(what + " answered " + got + ", due is " + want);
        }
    }

    static void dueDouble(String what, double got, double want) {
        if (Double.doubleToLongBits(got) != Double.doubleToLongBits(want)) {
            report(what + " answered " + got + ", due is " + want);
        }
    }

    static void report(String text) {
        wrong++;
        System.out.println(sentence.isEmpty() ? text : text + " [" + sentence + "]");
    }

    /** The call throws just this exception, and nothing that can be looked at is another than before. */
    static void refused(String what, LitDigits x, Class<? extends RuntimeException> type, Call call) {
        long before = x.digest();
        try {
            report(what + " answered " + call.answer() + ", due is " + type.getSimpleName());
        } catch (RuntimeException e) {
            if (e.getClass() != type) {
                report(what + " threw " + e.getClass().getSimpleName() + ", due is " + type.getSimpleName());
            }
        }
        due(what + ", the digest behind it", x.digest(), before);
    }

    static void noIndex(String what, LitDigits x, Call call) {
        refused(what, x, IndexOutOfBoundsException.class, call);
    }

    static void noArgument(String what, LitDigits x, Call call) {
        refused(what, x, IllegalArgumentException.class, call);
    }

    static void noState(String what, LitDigits x, Call call) {
        refused(what, x, IllegalStateException.class, call);
    }

    /** One too small, one too large and the ends of int: each is refused. */
    private static void refusedBeside(String what, LitDigits x, Class<? extends RuntimeException> type, int least,
            int most, CallOf call) {
        int[] beside = {least - 1, most + 1, Integer.MIN_VALUE, Integer.MAX_VALUE};
        for (int value : beside) {
            refused(what + " " + value, x, type, () -> call.answer(value));
        }
    }

    static void noIndexBeside(String what, LitDigits x, int least, int most, CallOf call) {
        refusedBeside(what, x, IndexOutOfBoundsException.class, least, most, call);
    }

    static void noArgumentBeside(String what, LitDigits x, int least, int most, CallOf call) {
        refusedBeside(what, x, IllegalArgumentException.class, least, most, call);
    }

    /** The call saves one state more, and undo brings all back; asks for less than six saved states. */
    static void undoable(String what, LitDigits x, Call call) {
        long before = x.digest();
        int saved = x.count(12);
        call.answer();
        due(what + " saves a state", x.count(12), saved + 1);
        due(what + ", undo", x.undo(), saved);
        due(what + ", the digest behind undo", x.digest(), before);
    }

    static void saves(String what, LitDigits x, int states, Call call) {
        int saved = x.count(12);
        call.answer();
        due(what + " saves states", x.count(12) - saved, states);
    }

    static void type(LitDigits x, String text) {
        x.clearBuffer();
        for (int i = 0; i < text.length(); i++) {
            x.append(text.charAt(i));
        }
    }

    static LitDigits showing(String text) {
        LitDigits x = new LitDigits();
        type(x, text);
        x.load();
        return x;
    }

    static void dueSlots(String what, LitDigits x, int property, int... due) {
        for (int slot = 0; slot < due.length; slot++) {
            due(what + ": slotOf " + slot + " " + property, x.slotOf(slot, property), due[slot]);
        }
    }

    static void dueSegment(String what, LitDigits x, int slot, int segment, int... due) {
        for (int i = 0; i < due.length; i++) {
            due(what + ": segmentOf " + slot + " " + segment + " " + i, x.segmentOf(slot, segment, i), due[i]);
        }
    }

    /** The glow of a segment behind each of the next ticks. */
    static void dueGlows(String what, LitDigits x, int slot, int segment, int... due) {
        for (int i = 0; i < due.length; i++) {
            x.pass(1);
            due(what + ": glow of " + slot + " " + segment + " behind tick " + i, x.segmentOf(slot, segment, 0), due[i]);
        }
    }

    /** The slot that is lit in each of the next ticks, and whether each ends a round. */
    static void dueRound(String what, LitDigits x, int... lit) {
        for (int i = 0; i < lit.length; i++) {
            due(what + ": lit in tick " + i, x.count(3), lit[i]);
            due(what + ": ended by tick " + i, x.pass(1), i == lit.length - 1 ? 1 : 0);
        }
    }

    static void times(LitDigits x, int... times) {
        for (int slot = 0; slot < times.length; slot++) {
            x.time(slot, times[slot]);
        }
    }

    /** An undoable call saved one state, and undo takes all of it back. */
    static void undone(String what, LitDigits x, long before, int savedBefore) {
        due(what + ", saved states", x.count(12), Math.min(6, savedBefore + 1));
        due(what + ", undo", x.undo(), Math.min(6, savedBefore + 1) - 1);
        if (savedBefore < 6) {
            due(what + ", the digest behind undo", x.digest(), before);
        }
    }

    /** A hash of all that a snapshot or a saved state holds, and so of nothing but that. */
    static long stateOf(LitDigits x) {
        long hash = 0;
        for (int what = 0; what < 12; what++) {
            hash = 31 * hash + x.count(what);
        }
        for (int setting = 0; setting < 4; setting++) {
            hash = 31 * hash + x.setting(setting);
        }
        for (int slot = 0; slot < 6; slot++) {
            for (int what = 0; what < 10; what++) {
                hash = 31 * hash + x.slotOf(slot, what);
            }
            for (int segment = 0; segment < 8; segment++) {
                hash = 31 * hash + x.segmentOf(slot, segment, 0);
            }
        }
        return hash;
    }

    /** The hash as promise 28 tells it, out of all that the other methods answer. */
    static long digestOf(LitDigits x, String buffer, int kept0, int kept1) {
        long hash = 3347;
        for (int what = 0; what <= 12; what++) {
            hash = 31 * hash + x.count(what);
        }
        for (int setting = 0; setting <= 3; setting++) {
            hash = 31 * hash + x.setting(setting);
        }
        for (int slot = 0; slot <= 5; slot++) {
            for (int what = 0; what <= 9; what++) {
                hash = 31 * hash + x.slotOf(slot, what);
            }
            for (int segment = 0; segment <= 7; segment++) {
                for (int what = 0; what <= 3; what++) {
                    hash = 31 * hash + x.segmentOf(slot, segment, what);
                }
            }
            hash = 31 * hash + x.couldBe(slot, 0);
            hash = 31 * hash + x.couldBe(slot, 1);
            hash = 31 * hash + x.ifBalanced(20, slot);
            hash = 31 * hash + x.safest(slot);
        }
        hash = 31 * hash + x.ifTimed(0, 5);
        hash = 31 * hash + Double.doubleToLongBits(x.litShare());
        hash = 31 * hash + Float.floatToIntBits(x.meanBrightness());
        hash = 31 * hash + kept0;
        hash = 31 * hash + kept1;
        hash = 31 * hash + buffer.length();
        for (int i = 0; i < buffer.length(); i++) {
            hash = 31 * hash + buffer.charAt(i);
        }
        return hash;
    }

    static void end() {
        if (wrong != 0) {
            System.out.println(wrong + " answers are not as due");
            System.exit(1);
        }
    }
}
