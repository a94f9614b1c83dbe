/** Promises 22 to 28: couldBe, ifTimed, ifBalanced, safest, litShare, meanBrightness, digest. */
public final class WouldBeTest {
    private static void couldBe() {
        LitDigits x = Check.showing("8.");
        Check.due("8 alone", x.couldBe(0, 0), 1);
        Check.due("8 alone", x.couldBe(0, 1), 8);
        x.burn(0, 6);
        Check.due("8 and 0", x.couldBe(0, 0), 2);
        Check.due("the lowest is 0", x.couldBe(0, 1), 0);
        x.cut(4);
        Check.due("0, 8 and 9", x.couldBe(0, 0), 3);
        Check.due("the lowest is 0", x.couldBe(0, 1), 0);
        Check.due("another slot shows nothing", x.couldBe(1, 0), 1);
        Check.due("another slot shows nothing", x.couldBe(1, 1), 17);
        for (int segment = 0; segment < 7; segment++) {
            x.burn(2, segment);
        }
        Check.due("all segments are burnt", x.couldBe(2, 0), 18);
        Check.due("the lowest of all", x.couldBe(2, 1), 0);
        x.burn(1, 6);
        Check.due("nothing, and a dash without its segment", x.couldBe(1, 0), 2);
        Check.due("the dash is the lowest", x.couldBe(1, 1), 16);
        Check.noIndex("couldBe -1", x, () -> x.couldBe(-1, 0));
        Check.noIndex("couldBe 6", x, () -> x.couldBe(6, 0));
        Check.noIndex("couldBe: the slot goes ahead", x, () -> x.couldBe(6, 2));
        Check.noArgument("couldBe what -1", x, () -> x.couldBe(0, -1));
        Check.noArgument("couldBe what 2", x, () -> x.couldBe(0, 2));
    }

    private static void ifTimed() {
        LitDigits x = Check.showing("8-1");
        x.set(0, 0);
        x.set(2, 16);
        x.pass(7);
        for (int time = 0; time <= 20; time++) {
            for (int slot = 0; slot < 6; slot++) {
                long before = x.digest();
                int told = x.ifTimed(slot, time);
                Check.due("ifTimed changes nothing", x.digest(), before);
                x.time(slot, time);
                Check.due("ifTimed " + slot + " " + time, told, x.slotOf(slot, 9));
                x.undo();
                x.dot(5);
                x.undo();
            }
        }
        LitDigits y = Check.showing("1");
        Check.times(y, 1, 0, 0, 0, 0, 0);
        y.set(2, 1);
        Check.due("840 / 2 for three of four ticks", y.ifTimed(0, 3), 315);
        Check.due("no time", y.ifTimed(0, 0), 0);
        Check.noIndex("ifTimed -1", y, () -> y.ifTimed(-1, 0));
        Check.noIndex("ifTimed 6", y, () -> y.ifTimed(6, 0));
        Check.noIndex("ifTimed: the slot goes ahead", y, () -> y.ifTimed(6, 21));
        Check.noArgument("ifTimed time -1", y, () -> y.ifTimed(0, -1));
        Check.noArgument("ifTimed time 21", y, () -> y.ifTimed(0, 21));
    }

    private static void ifBalanced() {
        LitDigits x = Check.showing("18_8.");
        for (int ticks = 6; ticks <= 60; ticks++) {
            long before = x.digest();
            int[] told = new int[6];
            for (int slot = 0; slot < 6; slot++) {
                told[slot] = x.ifBalanced(ticks, slot);
            }
            Check.due("ifBalanced changes nothing", x.digest(), before);
            x.balance(ticks);
            for (int slot = 0; slot < 6; slot++) {
                Check.due("ifBalanced " + ticks + " " + slot, told[slot], x.slotOf(slot, 2));
            }
            x.undo();
            x.dot(5);
            x.undo();
        }
        Check.due("2 of 17 segments in 6 ticks", x.ifBalanced(6, 0), 1);
        Check.due("8 of 17 segments in 6 ticks", x.ifBalanced(6, 3), 3);
        Check.due("none for a slot without segments", x.ifBalanced(6, 2), 0);
        Check.noIndex("ifBalanced slot -1", x, () -> x.ifBalanced(6, -1));
        Check.noIndex("ifBalanced slot 6", x, () -> x.ifBalanced(6, 6));
        Check.noIndex("ifBalanced: the slot goes ahead", x, () -> x.ifBalanced(5, 6));
        Check.noArgument("ifBalanced 5", x, () -> x.ifBalanced(5, 0));
        Check.noArgument("ifBalanced 61", x, () -> x.ifBalanced(61, 0));
        LitDigits y = new LitDigits();
        Check.due("no segment works", y.ifBalanced(60, 0), -1);
        Check.noArgument("ifBalanced 61 without segments", y, () -> y.ifBalanced(61, 0));
    }

    private static void safest() {
        LitDigits x = new LitDigits();
        int[] hurt = {8, 6, 8, 8, 8, 8, 0, 8};
        for (int segment = 0; segment < 8; segment++) {
            x.burn(0, segment);
            Check.due("safest without " + segment, x.safest(0), hurt[segment]);
            x.burn(0, segment);
        }
        x.burn(1, 0);
        x.cut(6);
        Check.due("0 loses one, 8 two", x.safest(1), 0);
        Check.due("cut alone", x.safest(0), 0);
        x.burn(1, 5);
        Check.due("without 0, 5 and 6: d has three, 1, 3 lose more", x.safest(1), 13);
        for (int segment = 0; segment < 6; segment++) {
            x.cut(segment);
        }
        Check.due("none works: the lowest with one segment at most", x.safest(2), 16);
        Check.noIndex("safest -1", x, () -> x.safest(-1));
        Check.noIndex("safest 6", x, () -> x.safest(6));
    }

    private static void litShare() {
        LitDigits x = new LitDigits();
        Check.dueDouble("two of three", x.litShare(), 12.0 / 18.0);
        x.set(0, 0);
        Check.dueDouble("all", x.litShare(), 1.0);
        x.set(0, 3);
        Check.times(x, 20, 0, 1, 0, 0, 0);
        Check.dueDouble("21 of 27", x.litShare(), 21.0 / 27.0);
        Check.times(x, 0, 0, 0, 0, 0, 0);
        Check.dueDouble("without ticks", x.litShare(), 0.0);
    }

    private static void meanBrightness() {
        LitDigits x = new LitDigits();
        Check.dueDouble("without segments", x.meanBrightness(), 0.0f);
        x.show(0, 1);
        Check.dueDouble("one slot", x.meanBrightness(), 114.0f);
        x.show(3, 8);
        x.show(5, 2);
        int sum = x.slotOf(0, 9) + x.slotOf(3, 9) + x.slotOf(5, 9);
        Check.due("the sum", sum, 114 + 31 + 44);
        Check.dueDouble("three slots", x.meanBrightness(), (float) sum / 3.0f);
        Check.times(x, 0, 0, 0, 0, 0, 0);
        Check.dueDouble("without ticks", x.meanBrightness(), 0.0f);
    }

    private static void digest() {
        LitDigits x = new LitDigits();
        Check.due("digest of a new object", x.digest(), Check.digestOf(x, "", 0, 0));
        x.keep(1);
        Check.type(x, "~!12");
        Check.due("digest with a snapshot and a buffer", x.digest(), Check.digestOf(x, "~!12", 0, 1));
        x.keep(0);
        Check.due("digest with both", x.digest(), Check.digestOf(x, "~!12", 1, 1));
        for (int power = 1; power <= 2000; power += 53) {
            LitDigits y = Check.showing("8.1_-A3.");
            y.set(1, power);
            y.set(0, power % 4);
            y.time(power % 6, power % 21);
            y.pass(power % 200 + 1);
            Check.due("digest with power " + power, y.digest(), Check.digestOf(y, "", 0, 0));
            Check.due("digest changes nothing", y.digest(), Check.digestOf(y, "", 0, 0));
        }
        Check.times(x, 0, 0, 0, 0, 0, 0);
        Check.due("digest without ticks", x.digest(), Check.digestOf(x, "~!12", 1, 1));
    }

    public static void main(String[] args) {
        couldBe();
        ifTimed();
        ifBalanced();
        safest();
        litShare();
        meanBrightness();
        digest();
        Check.end();
    }
}
