/** Promises 1 to 28: long runs of calls, right ones and wrong ones, answered as the plain model answers them. */
public final class ModelTest {
    private static final int RUNS = 120;
    private static final int CALLS = 512;
    private static final int KINDS = 27;

    private static long seed;

    private interface Call {
        long answer();
    }

    private static int next(int bound) {
        seed = seed * 6364136223846793005L + 1442695040888963407L;
        return (int) ((seed >>> 33) % bound);
    }

    /** Mostly a number of the range, now and then one beside it. */
    private static int near(int least, int most) {
        switch (next(24)) {
            case 0: return least - 1;
            case 1: return most + 1;
            case 2: return least;
            case 3: return most;
            default: return least + next(most - least + 1);
        }
    }

    private static String answerOf(Call call) {
        try {
            return Long.toString(call.answer());
        } catch (RuntimeException e) {
            return e.getClass().getSimpleName();
        }
    }

    private static String[] signsAndTimes(LitDigits x, PlainDigits y, int kind) {
        int slot = near(0, 5);
        switch (kind) {
            case 0: {
                int sign = near(0, 17);
                return three("show " + slot + " " + sign, () -> x.show(slot, sign), () -> y.show(slot, sign));
            }
            case 1: return three("dot " + slot, () -> x.dot(slot), () -> y.dot(slot));
            case 2: {
                int segment = near(0, 7);
                return three("burn " + slot + " " + segment, () -> x.burn(slot, segment), () -> y.burn(slot, segment));
            }
            case 3: {
                int segment = near(0, 7);
                return three("cut " + segment, () -> x.cut(segment), () -> y.cut(segment));
            }
            case 4: {
                int time = next(3) == 0 ? 0 : near(0, 20);
                return three("time " + slot + " " + time, () -> x.time(slot, time), () -> y.time(slot, time));
            }
            case 5: {
                int ticks = near(6, 60);
                return three("balance " + ticks, () -> x.balance(ticks), () -> y.balance(ticks));
            }
            case 6: {
                int[] most = {3, 2000, 16, 500, 1};
                int setting = near(0, 3);
                int value = near(setting == 0 ? 0 : 1, most[setting < 0 ? 4 : setting]);
                return three("set " + setting + " " + value, () -> x.set(setting, value), () -> y.set(setting, value));
            }
            default: {
                int ticks = next(2) == 0 ? near(1, 200) : near(1, 12);
                return three("pass " + ticks, () -> x.pass(ticks), () -> y.pass(ticks));
            }
        }
    }

    private static String[] textsAndSnapshots(LitDigits x, PlainDigits y, int kind) {
        int slot = near(0, 1);
        switch (kind) {
            case 8: {
                String likely = "0123456789ABCDEF-_......";
                int code = next(12) == 0 ? near(33, 126) : likely.charAt(next(likely.length()));
                return three("append " + code, () -> x.append(code), () -> y.append(code));
            }
            case 9: return three("clearBuffer", x::clearBuffer, y::clearBuffer);
            case 10: return three("firstError", x::firstError, y::firstError);
            case 11: return three("load", x::load, y::load);
            case 12: return three("write", x::write, y::write);
            case 13: return three("keep " + slot, () -> x.keep(slot), () -> y.keep(slot));
            case 14: return three("goBack " + slot, () -> x.goBack(slot), () -> y.goBack(slot));
            default: return three("undo", x::undo, y::undo);
        }
    }

    private static String[] looks(LitDigits x, PlainDigits y, int kind) {
        int slot = near(0, 5);
        switch (kind) {
            case 16: {
                int what = near(0, 9);
                return three("slotOf " + slot + " " + what, () -> x.slotOf(slot, what), () -> y.slotOf(slot, what));
            }
            case 17: {
                int g = near(0, 7);
                int what = near(0, 3);
                return three("segmentOf " + slot + " " + g + " " + what, () -> x.segmentOf(slot, g, what),
                    () -> y.segmentOf(slot, g, what));
            }
            case 18: {
                int what = near(0, 12);
                return three("count " + what, () -> x.count(what), () -> y.count(what));
            }
            case 19: {
                int setting = near(0, 3);
                return three("setting " + setting, () -> x.setting(setting), () -> y.setting(setting));
            }
            case 20: {
                int what = near(0, 1);
                return three("couldBe " + slot + " " + what, () -> x.couldBe(slot, what), () -> y.couldBe(slot, what));
            }
            case 21: {
                int time = near(0, 20);
                return three("ifTimed " + slot + " " + time, () -> x.ifTimed(slot, time), () -> y.ifTimed(slot, time));
            }
            case 22: {
                int ticks = near(6, 60);
                return three("ifBalanced " + ticks + " " + slot, () -> x.ifBalanced(ticks, slot),
                    () -> y.ifBalanced(ticks, slot));
            }
            case 23: return three("safest " + slot, () -> x.safest(slot), () -> y.safest(slot));
            case 24: return three("litShare", () -> Double.doubleToLongBits(x.litShare()),
                () -> Double.doubleToLongBits(y.litShare()));
            case 25: return three("meanBrightness", () -> Float.floatToIntBits(x.meanBrightness()),
                () -> Float.floatToIntBits(y.meanBrightness()));
            default: return three("digest", x::digest, y::digest);
        }
    }

    private static String[] three(String name, Call got, Call want) {
        return new String[] {name, answerOf(got), answerOf(want)};
    }

    private static boolean run(int number) {
        LitDigits x = new LitDigits();
        PlainDigits y = new PlainDigits();
        // some runs have few kinds of changes, so that what one kind leaves can last
        int favoured = number % 3 == 0 ? -1 : next(16);
        for (int i = 0; i < CALLS / 2; i++) {
            int kind = favoured >= 0 && next(3) == 0 ? favoured : next(KINDS);
            String[] answers = kind < 8 ? signsAndTimes(x, y, kind)
                : kind < 16 ? textsAndSnapshots(x, y, kind) : looks(x, y, kind);
            boolean same = answers[1].equals(answers[2]) && (i % 4 != 0 || x.digest() == y.digest());
            if (!same) {
                Check.report("run " + number + ", call " + i + ": " + answers[0] + " answered " + answers[1]
                    + ", due is " + answers[2] + " (or the digest behind it differs)");
                return false;
            }
        }
        return true;
    }

    public static void main(String[] args) {
        for (int i = 0; i < RUNS; i++) {
            seed = 3347L + i;
            run(i);
        }
        Check.end();
    }
}
