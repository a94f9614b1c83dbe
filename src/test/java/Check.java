/** What the tests share: answers compared, exceptions awaited, displays put into an object. */
final class Check {
    interface Call {
        long answer();
    }

    private static int wrong = 0;

    private Check() {
    }

    static void due(String what, long got, long want) {
        if (got != want) {
            report(what + " answered " + got + ", due is " + want);
        }
    }

    static void dueDouble(String what, double got, double want) {
        if (Double.doubleToLongBits(got) != Double.doubleToLongBits(want)) {
            report(what + " answered " + got + ", due is " + want);
        }
    }

    static void report(String text) {
        wrong++;
        System.out.println(text);
    }

    /** The call throws just this exception, and nothing that can be looked at is another than before. */
    static void refused(String what, LitDigits x, Class<? extends RuntimeException> type, Call call) {
        long before = x.digest();
        try {
            report(what + " answered " + call.answer() + ", due is " + type.getSimpleName());
        } catch (RuntimeException e) {
            if (e.getClass() != type) {
                report(what + " threw " + e.getClass().getSimpleName() + ", due is " + type.getSimpleName());
            }
        }
        due(what + ", the digest behind it", x.digest(), before);
    }

    static void noIndex(String what, LitDigits x, Call call) {
        refused(what, x, IndexOutOfBoundsException.class, call);
    }

    static void noArgument(String what, LitDigits x, Call call) {
        refused(what, x, IllegalArgumentException.class, call);
    }

    static void noState(String what, LitDigits x, Call call) {
        refused(what, x, IllegalStateException.class, call);
    }

    static void type(LitDigits x, String text) {
        x.clearBuffer();
        for (int i = 0; i < text.length(); i++) {
            x.append(text.charAt(i));
        }
    }

    static LitDigits showing(String text) {
        LitDigits x = new LitDigits();
        type(x, text);
        x.load();
        return x;
    }

    static void times(LitDigits x, int... times) {
        for (int slot = 0; slot < times.length; slot++) {
            x.time(slot, times[slot]);
        }
    }

    /** An undoable call saved one state, and undo takes all of it back. */
    static void undone(String what, LitDigits x, long before, int savedBefore) {
        due(what + ", saved states", x.count(12), Math.min(6, savedBefore + 1));
        due(what + ", undo", x.undo(), Math.min(6, savedBefore + 1) - 1);
        if (savedBefore < 6) {
            due(what + ", the digest behind undo", x.digest(), before);
        }
    }

    static void end() {
        if (wrong != 0) {
            System.out.println(wrong + " answers are not as due");
            System.exit(1);
        }
    }
}
