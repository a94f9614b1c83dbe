/** The edges that promises 22 to 28 name, a test for each sentence. */
public final class WouldBeEdgesTest {
    private static void couldBe() {
        Check.sentence("0: how many signs have the same segments 0 to 6 that would work in this slot as its sign has "
            + "(with its sign)");
        LitDigits x = Check.showing("8.____0");
        Check.due("itself alone", x.couldBe(0, 0), 1);
        x.burn(0, 7);
        Check.due("dots do not matter", x.couldBe(0, 0), 1);
        x.burn(5, 6);
        Check.due("0 and 8", x.couldBe(5, 0), 2);
        Check.due("another slot's burnt segments do not matter", x.couldBe(0, 0), 1);
        for (int segment = 0; segment < 7; segment++) {
            x.cut(segment);
        }
        Check.due("all signs", x.couldBe(0, 0), 18);
        Check.due("all signs, shown nothing", x.couldBe(3, 0), 18);
        x.cut(6);
        Check.due("the signs with a segment 6", x.couldBe(0, 0), 13);
        Check.due("the signs without one", x.couldBe(3, 0), 5);
    }

    private static void couldBeLowest() {
        Check.sentence("1: the lowest of these");
        LitDigits x = Check.showing("0_8.");
        Check.dueSlots("each is itself", x, 0, 0, 17, 8);
        Check.due("the lowest sign", x.couldBe(0, 1), 0);
        Check.due("the greatest sign", x.couldBe(1, 1), 17);
        Check.due("8", x.couldBe(2, 1), 8);
        x.cut(6);
        Check.due("nothing and the dash", x.couldBe(1, 1), 16);
        Check.due("0 and 8", x.couldBe(2, 1), 0);
        Check.due("0 is the lowest itself", x.couldBe(0, 1), 0);
        for (int segment = 0; segment < 6; segment++) {
            x.cut(segment);
        }
        Check.due("the lowest of all", x.couldBe(1, 1), 0);
    }

    private static void couldBeRefuses() {
        LitDigits x = Check.showing("123456");
        Check.sentence("Throws `IndexOutOfBoundsException` if there is no such slot");
        Check.noIndexBeside("couldBe", x, 0, 5, v -> x.couldBe(v, 0));
        Check.sentence("Throws `IllegalArgumentException` if what is not 0 or 1");
        Check.noArgumentBeside("couldBe", x, 0, 1, v -> x.couldBe(5, v));
        Check.sentence("If several exceptions apply, the one that is named first in the throws clause is thrown.");
        Check.noIndex("couldBe", x, () -> x.couldBe(6, 2));
    }

    private static void ifTimed() {
        Check.sentence("Returns what slotOf(slot, 9) would be.");
        LitDigits x = Check.showing("-____1");
        x.set(2, 1);
        Check.due("no time", x.ifTimed(0, 0), 0);
        Check.due("1 of 17 ticks", x.ifTimed(0, 1), 49);
        Check.due("the time that it has", x.ifTimed(0, 2), x.slotOf(0, 9));
        Check.due("20 of 36 ticks", x.ifTimed(0, 20), 466);
        Check.due("20 of 36 ticks, the last slot", x.ifTimed(5, 20), 233);
        Check.due("nothing shown", x.ifTimed(1, 20), 0);
        Check.times(x, 0, 0, 0, 0, 0, 0);
        Check.due("a round without ticks", x.ifTimed(0, 0), 0);
        Check.due("a round of its own", x.ifTimed(0, 1), 420);
        Check.sentence("---- what would be; nothing is changed.");
        Check.dueSlots("times", x, 2, 0, 0, 0, 0, 0, 0);
        Check.due("the slot is dark", x.slotOf(0, 9), 0);
    }

    private static void ifTimedWithinARound() {
        Check.sentence("Returns what slotOf(slot, 9) would be.");
        for (int ticks = 1; ticks <= 6; ticks++) {
            LitDigits x = Check.showing("-81");
            x.set(0, 0);
            x.set(2, 16);
            Check.times(x, 2, 2, 2, 0, 0, 0);
            x.pass(ticks);
            for (int slot = 0; slot < 4; slot++) {
                int told = x.ifTimed(slot, 3);
                Check.due("the round of now stays", x.count(2), ticks % 6);
                x.time(slot, 3);
                Check.due("what is told", told, x.slotOf(slot, 9));
                x.undo();
            }
        }
    }

    private static void ifTimedRefuses() {
        LitDigits x = Check.showing("123456");
        Check.sentence("Throws `IndexOutOfBoundsException` if there is no such slot");
        Check.noIndexBeside("ifTimed", x, 0, 5, v -> x.ifTimed(v, 0));
        Check.sentence("Throws `IllegalArgumentException` if time is out of range");
        Check.noArgumentBeside("ifTimed", x, 0, 20, v -> x.ifTimed(5, v));
        Check.sentence("If several exceptions apply, the one that is named first in the throws clause is thrown.");
        Check.noIndex("ifTimed", x, () -> x.ifTimed(-1, 21));
    }

    private static void ifBalanced() {
        Check.sentence("Returns the time of the slot then; NONE if balance() would throw IllegalStateException.");
        LitDigits x = Check.showing("8____1");
        Check.due("the fewest ticks", x.ifBalanced(6, 0), 4);
        Check.due("the fewest ticks", x.ifBalanced(6, 5), 2);
        Check.due("the most ticks", x.ifBalanced(60, 0), 20);
        Check.due("the most ticks", x.ifBalanced(60, 5), 20);
        Check.due("a slot without segments", x.ifBalanced(60, 1), 0);
        Check.dueSlots("nothing is changed", x, 2, 2, 2, 2, 2, 2, 2);
        LitDigits y = new LitDigits();
        Check.due("no segment", y.ifBalanced(6, 0), LitDigits.NONE);
        y.dot(5);
        Check.due("a dot", y.ifBalanced(6, 5), 6);
        Check.due("none beside it", y.ifBalanced(6, 0), 0);
        y.cut(7);
        Check.due("a cut dot", y.ifBalanced(60, 5), LitDigits.NONE);
        Check.due("no state is saved", y.count(12), 2);
    }

    private static void ifBalancedRefuses() {
        LitDigits x = Check.showing("123456");
        Check.sentence("Throws `IndexOutOfBoundsException` if there is no such slot");
        Check.noIndexBeside("ifBalanced", x, 0, 5, v -> x.ifBalanced(6, v));
        Check.sentence("Throws `IllegalArgumentException` if ticks is out of range");
        Check.noArgumentBeside("ifBalanced", x, 6, 60, v -> x.ifBalanced(v, 5));
        LitDigits y = new LitDigits();
        Check.noArgument("ifBalanced 5, and no segment works", y, () -> y.ifBalanced(5, 0));
        Check.sentence("If several exceptions apply, the one that is named first in the throws clause is thrown.");
        Check.noIndex("ifBalanced", x, () -> x.ifBalanced(61, 6));
    }

    private static void burnAll(LitDigits x, int slot, int... segments) {
        for (int segment : segments) {
            x.burn(slot, segment);
        }
    }

    private static void safest() {
        Check.sentence("Returns of the signs of which at most one segment would not work in this slot, the one of which the "
            + "most would work, of several the lowest (dots do not matter).");
        LitDigits x = new LitDigits();
        Check.due("nothing is hurt", x.safest(0), 8);
        burnAll(x, 0, 6);
        Check.due("6 of 8 work, and all 6 of 0: the lowest", x.safest(0), 0);
        burnAll(x, 0, 0);
        Check.due("8 would lose two, 0 loses one and has 5", x.safest(0), 0);
        burnAll(x, 0, 1);
        Check.due("without 0, 1 and 6: 11, 12, 13 and 14 have 4, 3, 4 and 4", x.safest(0), 11);
        burnAll(x, 1, 0, 1, 2, 3, 4, 5);
        Check.due("the dash works, 1 and 4 would lose two", x.safest(1), 16);
        burnAll(x, 1, 6);
        Check.due("none works: the dash loses one, nothing is higher", x.safest(1), 16);
        burnAll(x, 5, 7);
        Check.due("a burnt dot", x.safest(5), 8);
        x.dot(4);
        x.show(4, 1);
        Check.due("what is shown does not matter", x.safest(4), 8);
        x.cut(1);
        Check.due("a cut line: 6 has all its 6", x.safest(4), 6);
        Check.sentence("Throws `IndexOutOfBoundsException` if there is no such slot");
        Check.noIndexBeside("safest", x, 0, 5, x::safest);
    }

    private static void litShare() {
        Check.sentence("Returns the lit ticks of a round as a double, divided by all its ticks; 0.0 without ticks.");
        LitDigits x = new LitDigits();
        Check.dueDouble("12 of 18", x.litShare(), 12.0 / 18.0);
        x.set(0, 3);
        Check.times(x, 1, 0, 0, 0, 0, 0);
        Check.dueDouble("the least", x.litShare(), 0.25);
        Check.times(x, 20, 20, 20, 20, 20, 20);
        Check.dueDouble("the longest", x.litShare(), 120.0 / 138.0);
        x.set(0, 0);
        Check.dueDouble("all", x.litShare(), 1.0);
        Check.times(x, 0, 0, 1, 0, 0, 0);
        Check.dueDouble("all of one tick", x.litShare(), 1.0);
        Check.times(x, 0, 0, 0, 0, 0, 0);
        Check.dueDouble("without ticks", x.litShare(), 0.0);
        x.set(0, 3);
        Check.dueDouble("without ticks, dark ones told", x.litShare(), 0.0);
    }

    private static void meanBrightness() {
        Check.sentence("Returns the sum of slotOf(.., 9) of the slots with segments that work, as a float, divided by how "
            + "many these are; 0.0f without one.");
        LitDigits x = new LitDigits();
        Check.dueDouble("no slot", x.meanBrightness(), 0.0f);
        x.show(5, 16);
        Check.dueDouble("one slot", x.meanBrightness(), 229.0f);
        x.show(0, 8);
        Check.dueDouble("229 and 31", x.meanBrightness(), 130.0f);
        x.dot(3);
        x.time(3, 0);
        x.time(4, 4);
        Check.dueDouble("a slot without time counts", x.meanBrightness(),
            (float) (x.slotOf(5, 9) + x.slotOf(0, 9)) / 3.0f);
        x.burn(3, 7);
        Check.dueDouble("a slot without segments does not", x.meanBrightness(),
            (float) (x.slotOf(5, 9) + x.slotOf(0, 9)) / 2.0f);
        x.cut(0);
        x.cut(1);
        Check.times(x, 0, 0, 0, 0, 0, 0);
        Check.dueDouble("without ticks", x.meanBrightness(), 0.0f);
        LitDigits y = Check.showing("------");
        y.set(0, 0);
        y.set(1, 2000);
        Check.times(y, 0, 0, 0, 0, 0, 1);
        Check.dueDouble("2000 / 6", y.meanBrightness(), 2000.0f / 6.0f);
        y.set(1, 1);
        Check.dueDouble("1 / 6", y.meanBrightness(), 1.0f / 6.0f);
    }

    private static void digestOfEdges() {
        Check.sentence("The hash starts at 3347.");
        LitDigits x = new LitDigits();
        Check.due("a new object", x.digest(), Check.digestOf(x, "", 0, 0));
        Check.sentence("for each slot for snapshots 1 if it has a snapshot, otherwise 0");
        x.keep(0);
        Check.due("the first alone", x.digest(), Check.digestOf(x, "", 1, 0));
        x.keep(1);
        Check.due("both", x.digest(), Check.digestOf(x, "", 1, 1));
        LitDigits y = new LitDigits();
        y.keep(1);
        Check.due("the second alone", y.digest(), Check.digestOf(y, "", 0, 1));
        Check.sentence("the length of the buffer and each of its character codes");
        Check.type(y, "~");
        Check.due("one", y.digest(), Check.digestOf(y, "~", 0, 1));
        Check.type(y, "!~0123456789");
        Check.due("twelve", y.digest(), Check.digestOf(y, "!~0123456789", 0, 1));
        y.clearBuffer();
        Check.due("none again", y.digest(), Check.digestOf(y, "", 0, 1));
    }

    private static void digestOfNumbers() {
        Check.sentence("the bits of litShare (as Double.doubleToLongBits) and of meanBrightness (as Float.floatToIntBits)");
        for (int time = 0; time <= 20; time++) {
            for (int dark = 0; dark <= 3; dark++) {
                LitDigits x = Check.showing("-____8");
                x.set(0, dark);
                Check.times(x, time, 0, 0, 0, 0, 0);
                x.set(1, 1 + 99 * time);
                Check.due("digest", x.digest(), Check.digestOf(x, "", 0, 0));
            }
        }
        LitDigits y = Check.showing("------");
        y.set(0, 0);
        Check.times(y, 0, 0, 0, 0, 0, 1);
        for (int power = 1; power <= 2000; power += 37) {
            y.set(1, power);
            Check.due("digest of " + power + " / 6", y.digest(), Check.digestOf(y, "", 0, 0));
        }
    }

    public static void main(String[] args) {
        couldBe();
        couldBeLowest();
        couldBeRefuses();
        ifTimed();
        ifTimedWithinARound();
        ifTimedRefuses();
        ifBalanced();
        ifBalancedRefuses();
        safest();
        litShare();
        meanBrightness();
        digestOfEdges();
        digestOfNumbers();
        Check.end();
    }
}
