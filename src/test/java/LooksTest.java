/** Promises 18 to 21: slotOf, segmentOf, count, setting. */
public final class LooksTest {
    private static void dueSlot(String what, LitDigits x, int slot, int... due) {
        for (int i = 0; i < due.length; i++) {
            Check.due(what + ": slotOf " + slot + " " + i, x.slotOf(slot, i), due[i]);
        }
    }

    private static void dueSegment(String what, LitDigits x, int slot, int segment, int... due) {
        for (int i = 0; i < due.length; i++) {
            Check.due(what + ": segmentOf " + slot + " " + segment + " " + i, x.segmentOf(slot, segment, i), due[i]);
        }
    }

    /** A dark tick and a lit one, light 10 for each of two segments, nothing left behind a tick. */
    private static LitDigits small() {
        LitDigits x = Check.showing("1");
        Check.times(x, 1, 0, 0, 0, 0, 0);
        x.set(1, 20);
        x.set(2, 1);
        return x;
    }

    private static void brightness() {
        LitDigits x = small();
        dueSegment("nothing is left", x, 0, 1, 0, 5, 10, 0);
        dueSegment("no light", x, 0, 0, 0, 0, 0, 0);
        x.set(2, 2);
        dueSegment("10 - 5 - 1 is left", x, 0, 1, 0, 7, 10, 4);
        x.set(0, 3);
        dueSegment("4, 1, 0 and 10, rounded down", x, 0, 1, 0, 3, 10, 0);
        x.set(3, 4);
        Check.due("3 is not seen", x.slotOf(0, 6), 0);
        x.set(3, 3);
        Check.due("3 is seen", x.slotOf(0, 6), 6);
        x.time(0, 0);
        dueSegment("without ticks in a round", x, 0, 1, 0, 0, 0, 0);
        dueSlot("without ticks in a round", x, 0, 1, 0, 0, 0, 6, 10, 0, 17, 0, 0);
    }

    private static void eightRounds() {
        LitDigits x = new LitDigits();
        Check.times(x, 1, 0, 0, 0, 0, 0);
        x.set(0, 0);
        x.set(1, 2000);
        x.set(2, 16);
        x.show(0, 16);
        x.pass(1);
        x.show(0, 17);
        dueSegment("2000 fades for eight ticks", x, 0, 6, 2000, 1190, 1190, 1190);
        dueSlot("what glows is read, though nothing works", x, 0, 17, 0, 1, 0, 0, 0, 64, 16, 0, 0);
        x.time(0, 2);
        dueSegment("for fourteen ticks, then 754 and 706", x, 0, 6, 2000, 730, 754, 706);
        x.time(0, 20);
        dueSegment("for 140 ticks", x, 0, 6, 2000, 0, 0, 0);
    }

    private static void theRoundOfNowDoesNotMatter() {
        LitDigits x = Check.showing("8");
        int before = x.segmentOf(0, 0, 1);
        x.pass(2);
        Check.due("told from the beginning of a round", x.segmentOf(0, 0, 1), before);
        Check.due("nothing is changed by looks", x.count(2), 2);
    }

    private static void slot() {
        LitDigits x = Check.showing("8.1.2");
        x.burn(0, 2);
        x.cut(6);
        dueSlot("8.", x, 0, 8, 1, 2, 4, 187, 140, 187, -1, 0, 36);
        dueSlot("1.", x, 1, 1, 1, 2, 0, 134, 280, 134, 1, 1, 75);
        dueSlot("2", x, 2, 2, 0, 2, 0, 27, 210, 27, -1, 0, 56);
        x.show(0, 7);
        dueSlot("7. without 2", x, 0, 7, 1, 2, 4, 131, 280, 131, -1, 0, 75);
        x.burn(1, 7);
        dueSlot("1. with a burnt dot", x, 1, 1, 1, 2, 128, 6, 420, 6, 1, 0, 114);
        x.dot(1);
        dueSlot("1 with a burnt dot", x, 1, 1, 0, 2, 128, 6, 420, 6, 1, 1, 114);
        Check.due("the last property, the last slot", x.slotOf(5, 9), 0);
        Check.noIndex("slotOf -1", x, () -> x.slotOf(-1, 0));
        Check.noIndex("slotOf 6", x, () -> x.slotOf(6, 0));
        Check.noIndex("slotOf: the slot goes ahead", x, () -> x.slotOf(6, 10));
        Check.noArgument("slotOf what -1", x, () -> x.slotOf(0, -1));
        Check.noArgument("slotOf what 10", x, () -> x.slotOf(0, 10));
    }

    private static void aGhostOfADotIsSeen() {
        LitDigits x = Check.showing("-.-");
        Check.times(x, 1, 1, 0, 0, 0, 0);
        x.set(0, 0);
        x.set(2, 1);
        x.set(3, 52);
        dueSegment("105 of two ticks", x, 1, 7, 0, 52, 105, 0);
        dueSlot("read right but for the dot", x, 1, 16, 0, 1, 0, 64, 840, 192, 16, 0, 420);
        x.set(3, 53);
        Check.due("a ghost that is not seen", x.slotOf(1, 8), 1);
    }

    private static void readAs() {
        String signs = "0123456789ABCDEF-_";
        for (int sign = 0; sign < 18; sign++) {
            LitDigits x = Check.showing("____" + signs.charAt(sign));
            Check.due("read as its sign", x.slotOf(4, 7), sign);
            Check.due("read right", x.slotOf(4, 8), 1);
        }
        LitDigits x = Check.showing("8");
        x.burn(0, 6);
        Check.due("8 is read as 0", x.slotOf(0, 7), 0);
        Check.due("it is read wrong", x.slotOf(0, 8), 0);
    }

    private static void segment() {
        LitDigits x = Check.showing("8");
        x.pass(5);
        dueSegment("fading 4", x, 0, 0, 66, 31, 120, 0);
        Check.noIndex("segmentOf slot -1", x, () -> x.segmentOf(-1, 0, 0));
        Check.noIndex("segmentOf slot 6", x, () -> x.segmentOf(6, 0, 0));
        Check.noIndex("segmentOf segment -1", x, () -> x.segmentOf(0, -1, 0));
        Check.noIndex("segmentOf segment 8", x, () -> x.segmentOf(0, 8, 0));
        Check.noIndex("segmentOf: the segment goes ahead", x, () -> x.segmentOf(0, 8, 4));
        Check.noArgument("segmentOf what -1", x, () -> x.segmentOf(0, 0, -1));
        Check.noArgument("segmentOf what 4", x, () -> x.segmentOf(0, 0, 4));
    }

    private static void dueCounts(String what, LitDigits x, int... due) {
        for (int i = 0; i < due.length; i++) {
            Check.due(what + ": count " + i, x.count(i), due[i]);
        }
    }

    private static void count() {
        LitDigits x = small();
        x.show(1, 16);
        x.time(1, 1);
        x.cut(0);
        x.cut(3);
        x.pass(6);
        // slot 0: 10 of 4 ticks for two segments; slot 1: 20 of 4 ticks; both flicker by all that they have
        dueCounts("small", x, 6, 4, 2, -1, 1, 40, 40, 9, 2, 4, 3, 20, 6);
        x.pass(1);
        Check.due("the slot of the next tick", x.count(3), 1);
        x.pass(1);
        Check.due("the first tick is dark", x.count(3), -1);
        x.pass(1);
        Check.due("the slot of the next tick", x.count(3), 0);
        x.set(0, 0);
        Check.due("without dark ticks", x.count(3), 0);
        x.show(0, 8);
        Check.due("light that is lost in the division: 5 * 4 and 20", x.count(5), 40);
        x.set(1, 19);
        Check.due("5 * 3 and 19, by ticks", x.count(5), 34);
        Check.due("5 * 3 and 19, by slots", x.count(6), 34);
        x.burn(1, 6);
        Check.due("ghosts are not counted", x.count(5), 15);
        Check.due("one slot has no difference", x.count(10), 0);
        Check.due("slots with segments that work", x.count(8), 1);
        Check.times(x, 0, 0, 0, 0, 0, 0);
        dueCounts("without ticks", x, 9, 0, 0, -1, 2, 0, 0, 9, 1, 4, 0, 0, 6);
        Check.noArgument("count -1", x, () -> x.count(-1));
        Check.noArgument("count 13", x, () -> x.count(13));
    }

    private static void countsReadWithoutDots() {
        LitDigits x = Check.showing("8.8.");
        x.burn(0, 7);
        x.burn(1, 0);
        Check.due("dots do not matter", x.count(9), 5);
        Check.due("a dot works too", x.count(8), 2);
        x.show(3, 17);
        x.dot(3);
        Check.due("a slot with a dot alone", x.count(8), 3);
    }

    private static void flickerIsOfWorkingSegments() {
        LitDigits x = new LitDigits();
        Check.times(x, 1, 1, 0, 0, 0, 0);
        x.set(0, 0);
        x.set(2, 1);
        x.show(0, 16);
        Check.due("a segment that works: 840", x.count(11), 840);
        x.show(1, 1);
        x.set(1, 40);
        x.time(1, 0);
        Check.due("lit all the time", x.count(11), 0);
        x.show(0, 17);
        x.show(2, 16);
        x.time(3, 1);
        Check.due("a ghost does not flicker, nor what has no time", x.count(11), 0);
    }

    private static void flickerOfTheFirstSegment() {
        LitDigits x = Check.showing("8");
        for (int segment = 1; segment < 7; segment++) {
            x.burn(0, segment);
        }
        Check.due("the segment 0 alone, 840 to 5", x.count(11), 835);
    }

    /** Each look is asked first behind a change, when nothing has been looked at since. */
    private static void looksBehindAChange() {
        LitDigits told = Check.showing("8-.1___");
        told.digest();
        for (int what = 0; what < 13; what++) {
            Check.due("count " + what, Check.showing("8-.1___").count(what), told.count(what));
        }
        for (int slot = 0; slot < 6; slot++) {
            for (int what = 0; what < 10; what++) {
                Check.due("slotOf", Check.showing("8-.1___").slotOf(slot, what), told.slotOf(slot, what));
            }
            for (int what = 0; what < 4; what++) {
                Check.due("segmentOf", Check.showing("8-.1___").segmentOf(slot, 6, what), told.segmentOf(slot, 6, what));
            }
        }
        Check.dueDouble("meanBrightness", Check.showing("8-.1___").meanBrightness(), told.meanBrightness());
        Check.due("write", Check.showing("8-.1___").write(), 7);
    }

    private static void setting() {
        LitDigits x = new LitDigits();
        x.set(2, 9);
        Check.due("setting", x.setting(2), 9);
        Check.due("another setting", x.setting(3), 10);
        Check.noIndex("setting -1", x, () -> x.setting(-1));
        Check.noIndex("setting 4", x, () -> x.setting(4));
    }

    public static void main(String[] args) {
        brightness();
        eightRounds();
        theRoundOfNowDoesNotMatter();
        slot();
        aGhostOfADotIsSeen();
        readAs();
        segment();
        count();
        countsReadWithoutDots();
        flickerIsOfWorkingSegments();
        flickerOfTheFirstSegment();
        looksBehindAChange();
        setting();
        Check.end();
    }
}
