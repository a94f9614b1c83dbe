/** The edges that "What is seen" and promises 18 to 21 name, a test for each sentence. */
public final class LooksEdgesTest {
    /** Slots with a time of one tick each as told, no dark ticks, and nothing left of a glow behind a tick. */
    private static LitDigits bare(String text, int... times) {
        LitDigits x = Check.showing(text);
        x.set(0, 0);
        x.set(2, 1);
        Check.times(x, 0, 0, 0, 0, 0, 0);
        Check.times(x, times);
        return x;
    }

    /** Shows nothing, but its segment 6 glows with 2000, which fade the slowest. */
    private static LitDigits afterglow() {
        LitDigits x = bare("-", 1);
        x.set(1, 2000);
        x.set(2, 16);
        x.pass(1);
        x.show(0, 17);
        return x;
    }

    private static void meanOfAWholeRound() {
        Check.sentence("The brightness of a segment is the mean of its glows behind each tick of a whole round");
        LitDigits x = bare("-", 1);
        Check.dueSegment("a round of one tick", x, 0, 6, 0, 840, 840, 840);
        x.set(0, 3);
        Check.dueSegment("0, 0, 0, 840", x, 0, 6, 0, 210, 840, 0);
        x.time(0, 20);
        Check.dueSegment("20 of 23 ticks", x, 0, 6, 0, 730, 840, 0);
        x.time(0, 1);
        x.time(5, 20);
        Check.dueSegment("1 of 27 ticks", x, 0, 6, 0, 31, 840, 0);
    }

    private static void fromTheBeginningToTheEnd() {
        Check.sentence("from the beginning of a round to its end");
        LitDigits x = bare("_____-", 0, 0, 0, 0, 0, 1);
        x.set(0, 1);
        Check.dueSegment("lit in the last tick alone", x, 5, 6, 0, 420, 840, 0);
        x.time(0, 1);
        x.set(0, 0);
        Check.dueSegment("a ghost in the first tick alone", x, 0, 6, 0, 105, 210, 0);
        Check.dueSegment("lit in the last of two ticks", x, 5, 6, 0, 420, 840, 0);
    }

    private static void eightRounds() {
        Check.sentence("if the rounds go on for 8 rounds from now on");
        LitDigits x = afterglow();
        Check.dueSegment("behind 8 ticks", x, 0, 6, 2000, 1190, 1190, 1190);
        Check.sentence("and the mean is taken in the last one of these");
        x.time(0, 2);
        Check.dueSegment("behind 15 and 16 ticks", x, 0, 6, 2000, 730, 754, 706);
        x.time(0, 20);
        Check.dueSegment("all is gone", x, 0, 6, 2000, 0, 0, 0);
    }

    private static void fromTheFirstTickOfARound() {
        Check.sentence("beginning with the first tick of a round and the glows of now");
        LitDigits x = bare("-", 1);
        x.set(0, 2);
        x.set(2, 4);
        x.pass(3);
        Check.dueSegment("629, 471 and 840 of 3 ticks", x, 0, 6, 840, 646, 840, 471);
        Check.sentence("(The ticks that went by in the round of now do not matter for it.)");
        LitDigits y = afterglow();
        y.time(0, 20);
        y.set(0, 0);
        y.time(0, 3);
        y.pass(2);
        int within = y.segmentOf(0, 6, 1);
        Check.due("within a round", y.count(2), 2);
        y.set(0, 0);
        Check.due("at its beginning", y.count(2), 0);
        Check.due("brightness of the same glows", y.segmentOf(0, 6, 1), within);
    }

    private static void roundedDown() {
        Check.sentence("and the mean is taken in the last one of these; rounded down.");
        LitDigits x = bare("-", 1);
        x.set(0, 3);
        int[] power = {3, 4, 7, 8};
        int[] due = {0, 1, 1, 2};
        for (int i = 0; i < 4; i++) {
            x.set(1, power[i]);
            Check.due("a quarter of " + power[i], x.segmentOf(0, 6, 1), due[i]);
        }
    }

    private static void withoutTicks() {
        Check.sentence("Without ticks in a round it is 0.");
        LitDigits x = afterglow();
        x.show(0, 16);
        x.time(0, 0);
        Check.dueSegment("a glow that nobody sees", x, 0, 6, 2000, 0, 0, 0);
        Check.due("seen segments", x.slotOf(0, 6), 0);
        Check.due("read as nothing", x.slotOf(0, 7), 17);
    }

    private static void atLeastSetting3() {
        Check.sentence("A segment is seen if its brightness is at least setting 3.");
        LitDigits x = bare("-", 1);
        x.set(3, 500);
        int[] power = {499, 500, 501};
        int[] due = {0, 64, 64};
        for (int i = 0; i < 3; i++) {
            x.set(1, power[i]);
            Check.due(power[i] + " of 500", x.slotOf(0, 6), due[i]);
        }
        x.set(3, 1);
        x.set(1, 1);
        Check.due("1 of 1, and 0 of 1", x.slotOf(0, 6), 64);
        x.set(3, 2);
        Check.due("1 of 2", x.slotOf(0, 6), 0);
    }

    private static void readAsTheLowest() {
        Check.sentence("A slot is read as the lowest sign whose segments 0 to 6 are just those that are seen");
        for (int sign = 0; sign < 18; sign++) {
            LitDigits x = new LitDigits();
            x.show(5, sign);
            Check.due("without a dot", x.slotOf(5, 7), sign);
            x.dot(5);
            Check.due("with a dot", x.slotOf(5, 7), sign);
        }
        LitDigits x = Check.showing("8");
        x.burn(0, 6);
        Check.due("8 as 0", x.slotOf(0, 7), 0);
        Check.sentence("there may be none");
        x.burn(0, 5);
        Check.due("8 without 5 and 6", x.slotOf(0, 7), -1);
    }

    private static void slotOfPlain() {
        Check.sentence("0: its sign; 1: 1 if it has a dot, otherwise 0; 2: its time; 3: its burnt segments, as a mask; "
            + "4: its segments that work, as a mask");
        LitDigits x = Check.showing("0____8.");
        x.time(0, 0);
        x.time(5, 20);
        for (int segment = 0; segment < 8; segment++) {
            x.burn(0, segment);
        }
        int[][] due = {{0, 0, 0, 255, 0}, {8, 1, 20, 0, 255}};
        for (int what = 0; what < 5; what++) {
            Check.due("the first slot, " + what, x.slotOf(0, what), due[0][what]);
            Check.due("the last slot, " + what, x.slotOf(5, what), due[1][what]);
        }
    }

    private static void lightOfASlot() {
        Check.sentence("5: the light that each of these gets in a lit tick, 0 without one");
        LitDigits x = Check.showing("8.-_-");
        Check.dueSlots("8, 1, 0 and 1 segments", x, 5, 105, 840, 0, 840, 0, 0);
        x.burn(3, 6);
        x.set(1, 7);
        Check.dueSlots("7 of 8, 1, 0 and a burnt one", x, 5, 0, 7, 0, 0, 0, 0);
    }

    private static void seenOfASlot() {
        Check.sentence("6: its segments that are seen, as a mask");
        LitDigits x = Check.showing("8._");
        Check.due("all", x.slotOf(0, 6), 255);
        Check.due("none", x.slotOf(1, 6), 0);
        LitDigits y = bare("8._", 1, 1);
        y.burn(1, 2);
        Check.due("ghosts, which do not work there", y.slotOf(1, 6), 251);
        Check.due("what works there", y.slotOf(1, 4), 0);
    }

    private static void readOfASlot() {
        Check.sentence("7: the sign as which it is read, NONE without one");
        LitDigits x = Check.showing("0_1");
        x.cut(2);
        Check.dueSlots("none, nothing, none", x, 7, LitDigits.NONE, 17, LitDigits.NONE);
    }

    private static void readRight() {
        Check.sentence("8: 1 if it is read as its sign, and its dot is seen just if it has one, otherwise 0");
        LitDigits x = Check.showing("1.1.118_");
        x.burn(1, 7);
        x.burn(4, 6);
        Check.dueSlots("right, dot unseen, right, right, read wrong, nothing", x, 8, 1, 0, 1, 1, 0, 1);
        x.burn(0, 0);
        Check.due("burnt beside the sign", x.slotOf(0, 8), 1);
        x.burn(0, 1);
        Check.due("read as none, with its dot", x.slotOf(0, 8), 0);
        LitDigits y = bare("-.-", 1, 1);
        Check.dueSlots("read as its sign", y, 7, 16, 16);
        Check.dueSlots("a ghost of a dot", y, 8, 1, 0);
    }

    private static void meanOfASlot() {
        Check.sentence("9: the mean of the brightnesses of its segments that work, 0 without one");
        LitDigits x = afterglow();
        Check.due("nothing works, though it glows", x.slotOf(0, 9), 0);
        Check.due("it glows", x.slotOf(0, 6), 64);
        LitDigits y = bare("18", 1, 1);
        y.burn(0, 2);
        y.set(1, 84);
        Check.due("a ghost of 21", y.segmentOf(1, 1, 1), 10);
        Check.due("light of 12", y.segmentOf(1, 0, 1), 6);
        Check.due("46 / 7, rounded down", y.slotOf(1, 9), 6);
        y.show(1, 1);
        Check.due("42 alone, no ghosts beside it", y.slotOf(1, 9), 21);
        y.show(1, 16);
        Check.due("one segment", y.slotOf(1, 9), 42);
        y.dot(1);
        Check.due("and a dot: 42 / 2 of two ticks", y.slotOf(1, 9), 21);
        y.dot(1);
        y.time(1, 0);
        Check.due("without time", y.slotOf(1, 9), 0);
    }

    private static void slotOfRefuses() {
        LitDigits x = Check.showing("123456");
        Check.sentence("Throws `IndexOutOfBoundsException` if there is no such slot");
        Check.noIndexBeside("slotOf", x, 0, 5, v -> x.slotOf(v, 9));
        Check.sentence("Throws `IllegalArgumentException` if what is not 0 to 9");
        Check.noArgumentBeside("slotOf", x, 0, 9, v -> x.slotOf(5, v));
        Check.sentence("If several exceptions apply, the one that is named first in the throws clause is thrown.");
        Check.noIndex("slotOf", x, () -> x.slotOf(-1, -1));
    }

    private static void segmentOf() {
        Check.sentence("2: the greatest of its glows in the round by which the brightness is told; 3: the least of these");
        LitDigits x = afterglow();
        x.time(0, 2);
        Check.due("the greatest in the last round, not in the first", x.segmentOf(0, 6, 2), 754);
        Check.due("the least", x.segmentOf(0, 6, 3), 706);
        LitDigits y = Check.showing("-____-.");
        Check.dueSegment("the first slot", y, 0, 6, 0, 229, 840, 5);
        Check.dueSegment("the last segment", y, 5, 7, 0, 114, 420, 2);
        Check.sentence("0 for both without ticks in a round");
        x.time(0, 0);
        Check.due("greatest", x.segmentOf(0, 6, 2), 0);
        Check.due("least", x.segmentOf(0, 6, 3), 0);
        Check.due("but it glows", x.segmentOf(0, 6, 0), 2000);
    }

    private static void segmentOfRefuses() {
        LitDigits x = Check.showing("123456");
        Check.sentence("Throws `IndexOutOfBoundsException` if there is no such slot or segment");
        Check.noIndexBeside("segmentOf slot", x, 0, 5, v -> x.segmentOf(v, 0, 0));
        Check.noIndexBeside("segmentOf segment", x, 0, 7, v -> x.segmentOf(0, v, 0));
        Check.sentence("Throws `IllegalArgumentException` if what is not 0 to 3");
        Check.noArgumentBeside("segmentOf", x, 0, 3, v -> x.segmentOf(5, 7, v));
        Check.sentence("If several exceptions apply, the one that is named first in the throws clause is thrown.");
        Check.noIndex("segmentOf slot", x, () -> x.segmentOf(6, 0, 4));
        Check.noIndex("segmentOf segment", x, () -> x.segmentOf(0, 8, -1));
    }

    private static void countTicks() {
        Check.sentence("0: ticks that went by; 1: ticks of a round; 2: ticks that went by in the round of now");
        LitDigits x = new LitDigits();
        x.pass(17);
        Check.due("of the round, at its last tick", x.count(2), 17);
        x.pass(1);
        Check.due("of the round, behind its last tick", x.count(2), 0);
        Check.due("ticks", x.count(0), 18);
        x.set(0, 3);
        Check.times(x, 20, 20, 20, 20, 20, 20);
        Check.due("the longest round", x.count(1), 138);
        Check.times(x, 0, 0, 0, 0, 0, 0);
        Check.due("no round", x.count(1), 0);
        Check.due("in no round", x.count(2), 0);
        Check.due("ticks", x.count(0), 18);
    }

    private static void countLit() {
        Check.sentence("3: the slot that would be lit in the next tick, NONE if it is dark, or a round has no ticks");
        LitDigits x = new LitDigits();
        Check.due("dark", x.count(3), LitDigits.NONE);
        x.pass(1);
        Check.due("the first slot", x.count(3), 0);
        x.pass(16);
        Check.due("the last slot, in its last tick", x.count(3), 5);
        x.pass(1);
        Check.due("dark again", x.count(3), LitDigits.NONE);
        x.set(0, 0);
        Check.due("without dark ticks", x.count(3), 0);
        Check.times(x, 0, 0, 0, 0, 0, 0);
        Check.due("a round without ticks", x.count(3), LitDigits.NONE);
    }

    private static void countRounds() {
        Check.sentence("4: rounds ended so far");
        LitDigits x = new LitDigits();
        x.pass(17);
        Check.due("none", x.count(4), 0);
        x.time(0, 2);
        Check.due("a round that begins anew is not ended", x.count(4), 0);
        x.pass(18);
        Check.due("one", x.count(4), 1);
    }

    private static void countLight() {
        Check.sentence("5: the light that all segments get in a round (without ghosts), told tick by tick; 6: the same, "
            + "told by slots");
        for (int what = 5; what <= 6; what++) {
            LitDigits x = Check.showing("8-.1");
            Check.due("7 * 120, 2 * 420 and 2 * 420, two ticks each", x.count(what), 5040);
            x.set(1, 13);
            Check.due("7 * 1, 2 * 6 and 2 * 6", x.count(what), 62);
            x.time(0, 0);
            x.set(0, 0);
            Check.due("no ghosts, and none without time", x.count(what), 48);
            Check.times(x, 0, 0, 0, 0, 0, 0);
            Check.due("without ticks", x.count(what), 0);
            LitDigits y = Check.showing("------");
            y.set(1, 2000);
            Check.times(y, 20, 20, 20, 20, 20, 20);
            Check.due("the most", y.count(what), 240000);
        }
    }

    private static void countLines() {
        Check.sentence("7: cut lines, as a mask; 8: slots with segments that work");
        LitDigits x = Check.showing("8.8._._8.8.");
        Check.due("no line", x.count(7), 0);
        Check.due("slots with segments, or a dot alone", x.count(8), 5);
        x.burn(2, 7);
        Check.due("slots with a dot that is not burnt", x.count(8), 4);
        for (int segment = 0; segment < 8; segment++) {
            x.cut(segment);
        }
        Check.due("all lines", x.count(7), 255);
        Check.due("no slot", x.count(8), 0);
        LitDigits y = Check.showing("888888");
        y.time(0, 0);
        Check.due("all slots, one without time too", y.count(8), 6);
    }

    private static void countRead() {
        Check.sentence("9: slots that are read as their signs (dots do not matter)");
        LitDigits x = Check.showing("8.8.8.8.8.8.");
        Check.due("all", x.count(9), 6);
        x.cut(7);
        Check.due("all, without their dots", x.count(9), 6);
        x.burn(5, 6);
        Check.due("one is read as another", x.count(9), 5);
        x.cut(0);
        Check.due("none", x.count(9), 0);
        LitDigits y = bare("-.-", 1, 1);
        Check.due("a ghost of a dot", y.count(9), 6);
    }

    private static void countUneven() {
        Check.sentence("10: the greatest difference of slotOf(.., 9) of two slots with segments that work, 0 with fewer "
            + "than two");
        LitDigits x = new LitDigits();
        Check.due("no slot", x.count(10), 0);
        x.show(5, 1);
        Check.due("one slot", x.count(10), 0);
        x.show(0, 1);
        Check.due("two that are alike", x.count(10), 0);
        x.show(3, 8);
        Check.due("114 and 31", x.count(10), 83);
        x.show(2, 16);
        Check.due("229 and 31, not those beside one another", x.count(10), 198);
        x.time(3, 0);
        int brightest = x.slotOf(2, 9);
        Check.due("a slot without time has segments that work", x.count(10), brightest);
        Check.times(x, 0, 0, 0, 0, 0, 0);
        Check.due("all are dark", x.count(10), 0);
        x.cut(6);
        x.cut(1);
        x.cut(2);
        Check.due("one is left, and dark", x.count(10) + 10 * x.count(8), 10);
        Check.due("the first slot is the brightest", Check.showing("-11118").count(10), 198);
        Check.due("the last slot is the brightest", Check.showing("81111-").count(10), 198);
    }

    private static void countFlicker() {
        Check.sentence("11: the flicker: the greatest difference of segmentOf(.., 2) and (.., 3) of a segment that works");
        LitDigits x = new LitDigits();
        Check.due("no segment", x.count(11), 0);
        x.show(0, 16);
        Check.due("840 to 5", x.count(11), 835);
        x.show(1, 8);
        Check.due("the greatest of several", x.count(11), 835);
        x.show(0, 17);
        x.show(1, 17);
        x.dot(5);
        Check.due("the last slot's dot", x.count(11), 835);
        x.burn(5, 7);
        Check.due("burnt", x.count(11), 0);
    }

    private static void countFlickerOfWhatWorks() {
        Check.sentence("the greatest difference of segmentOf(.., 2) and (.., 3) of a segment that works");
        LitDigits z = Check.showing("8.");
        for (int segment = 1; segment < 8; segment++) {
            z.burn(0, segment);
        }
        Check.due("the first segment alone", z.count(11), 835);
        LitDigits y = bare("-_", 1, 1);
        y.burn(0, 6);
        y.show(2, 16);
        Check.due("no time, no light", y.count(11), 0);
        y.burn(0, 6);
        y.time(0, 20);
        y.time(1, 0);
        Check.due("lit without an end", y.count(11), 0);
        y.time(1, 1);
        y.set(2, 16);
        Check.due("840 to 787: a ghost flickers more, but does not work", y.count(11), 53);
        y.show(0, 1);
        y.cut(1);
        y.pass(21);
        y.show(0, 17);
        Check.due("what fades works no more", y.count(11), 0);
    }

    private static void countSaved() {
        Check.sentence("12: saved states");
        LitDigits x = new LitDigits();
        for (int i = 0; i <= 8; i++) {
            Check.due("saved states", x.count(12), Math.min(i, 6));
            x.dot(0);
        }
        x.undo();
        Check.due("behind an undo", x.count(12), 5);
        Check.sentence("Throws `IllegalArgumentException` if what is not 0 to 12");
        Check.noArgumentBeside("count", x, 0, 12, x::count);
    }

    private static void setting() {
        Check.sentence("Returns its value.");
        LitDigits x = new LitDigits();
        int[] least = {0, 1, 1, 1};
        int[] most = {3, 2000, 16, 500};
        for (int i = 0; i < 4; i++) {
            x.set(i, least[i]);
            Check.due("the least", x.setting(i), least[i]);
            x.set(i, most[i]);
            Check.due("the most", x.setting(i), most[i]);
        }
        Check.sentence("Throws `IndexOutOfBoundsException` if there is no such setting");
        Check.noIndexBeside("setting", x, 0, 3, x::setting);
    }

    /** Two objects go the same way, and at one of them everything is looked at in between. */
    private static void looksChangeNothing() {
        Check.sentence("---- looks; nothing is changed.");
        LitDigits x = Check.showing("8.1-");
        LitDigits y = Check.showing("8.1-");
        for (int i = 0; i < 4; i++) {
            x.pass(7 + i);
            y.pass(7 + i);
            Check.stateOf(x);
            x.ifTimed(0, 0);
            x.ifTimed(1, 20);
            x.ifBalanced(60, 0);
            x.couldBe(0, 1);
            x.safest(0);
            x.litShare();
            x.meanBrightness();
            Check.due("looked at or not", x.digest(), y.digest());
        }
    }

    public static void main(String[] args) {
        meanOfAWholeRound();
        fromTheBeginningToTheEnd();
        eightRounds();
        fromTheFirstTickOfARound();
        roundedDown();
        withoutTicks();
        atLeastSetting3();
        readAsTheLowest();
        slotOfPlain();
        lightOfASlot();
        seenOfASlot();
        readOfASlot();
        readRight();
        meanOfASlot();
        slotOfRefuses();
        segmentOf();
        segmentOfRefuses();
        countTicks();
        countLit();
        countRounds();
        countLight();
        countLines();
        countRead();
        countUneven();
        countFlicker();
        countFlickerOfWhatWorks();
        countSaved();
        setting();
        looksChangeNothing();
        Check.end();
    }
}
