/** The edges that "Rounds" names, a test for each sentence. */
public final class RoundsEdgesTest {
    /** No dark ticks, and nothing left of a glow behind a tick. */
    private static LitDigits bare(String text, int... times) {
        LitDigits x = Check.showing(text);
        x.set(0, 0);
        x.set(2, 1);
        Check.times(x, 0, 0, 0, 0, 0, 0);
        Check.times(x, times);
        return x;
    }

    private static void divisions() {
        Check.sentence("divisions are rounded down");
        LitDigits x = bare("8_", 1, 1);
        x.set(1, 55);
        Check.due("light: 55 / 7", x.slotOf(0, 5), 7);
        x.pass(2);
        Check.due("ghost: 7 / 4", x.segmentOf(1, 0, 0), 1);
        Check.due("brightness: 7 / 2", x.segmentOf(0, 0, 1), 3);
        x.set(2, 4);
        Check.dueGlows("glow: 7 - 7 / 4 - 1", x, 0, 0, 7, 5);
        x.burn(0, 0);
        x.show(0, 1);
        x.set(2, 2);
        Check.due("mean: 27 and 13 of two ticks, twice", x.slotOf(0, 9), 20);
        x.set(2, 1);
        x.show(1, 8);
        x.burn(0, 1);
        x.set(1, 84);
        Check.due("mean: 10 and six times 6, by 7", x.slotOf(1, 9), 6);
        Check.due("rounds: 5 ticks of 2", x.pass(5), 2);
    }

    private static void firstTimes() {
        Check.sentence("Each slot has a time, 0 to 20 ticks, at first 2.");
        LitDigits x = new LitDigits();
        Check.dueSlots("at first", x, 2, 2, 2, 2, 2, 2, 2);
        x.time(0, 0);
        x.time(5, 20);
        Check.dueSlots("the least and the greatest", x, 2, 0, 2, 2, 2, 2, 20);
    }

    private static void fromTheFirstSlotOn() {
        Check.sentence("A round goes through the slots, from the slot 0 on");
        LitDigits x = bare("_", 1, 2, 1, 1, 1, 1);
        Check.dueRound("all slots", x, 0, 1, 1, 2, 3, 4, 5);
        Check.dueRound("all slots again", x, 0, 1, 1, 2, 3, 4, 5);
    }

    private static void darkTicksFirst() {
        Check.sentence("for each one first setting 0 dark ticks, if its time is above 0, and then as many ticks as its time");
        LitDigits x = new LitDigits();
        Check.times(x, 0, 1, 0, 0, 2, 0);
        x.set(0, 2);
        Check.dueRound("two slots with a time", x, -1, -1, 1, -1, -1, 4, 4);
        x.set(0, 0);
        Check.dueRound("no dark ticks", x, 1, 4, 4);
        Check.times(x, 0, 0, 0, 0, 0, 1);
        Check.dueRound("a round of one tick", x, 5);
        Check.dueRound("and one more", x, 5);
        x.set(0, 3);
        Check.dueRound("the last slot alone", x, -1, -1, -1, 5);
        Check.times(x, 20, 20, 20, 20, 20, 20);
        Check.due("the longest round", x.count(1), 138);
        Check.due("which ends", x.pass(137) + 10 * x.pass(1), 10);
    }

    private static void noTicks() {
        Check.sentence("(If all times are 0, a round has no ticks, and does not go on.)");
        LitDigits x = Check.showing("8");
        x.pass(7);
        x.set(0, 3);
        Check.times(x, 0, 0, 0, 0, 0, 0);
        Check.due("ticks of a round", x.count(1), 0);
        Check.due("ticks of the round of now", x.count(2), 0);
        Check.due("lit in the next tick", x.count(3), -1);
        Check.noState("pass", x, () -> x.pass(1));
        x.time(5, 1);
        Check.due("it goes on with a time", x.pass(4), 1);
    }

    private static void litTicks() {
        Check.sentence("In a tick in which a slot is lit, each of its segments that work gets the light");
        LitDigits x = bare("-1", 1, 2);
        x.set(0, 1);
        Check.dueGlows("the first slot", x, 0, 6, 0, 840, 0, 0, 0, 0, 840);
        LitDigits y = bare("-1", 1, 2);
        y.set(0, 1);
        Check.dueGlows("the next slot", y, 1, 2, 0, 0, 0, 420, 420, 0, 0, 0, 420);
        LitDigits z = bare("-1", 1, 2);
        z.set(0, 1);
        Check.dueGlows("a segment that does not work", z, 1, 0, 0, 0, 0, 0, 0);
    }

    private static void shares() {
        Check.sentence("setting 1 divided by how many of them there are");
        LitDigits x = Check.showing("8.-_");
        x.set(1, 2000);
        Check.dueSlots("the most power of 8, 1 and 0 segments", x, 5, 250, 2000, 0);
        x.dot(0);
        x.set(1, 1);
        Check.dueSlots("the least power of 7, 1 and 0 segments", x, 5, 0, 1, 0);
        x.set(1, 7);
        Check.due("7 of 7", x.slotOf(0, 5), 1);
        x.dot(0);
        Check.due("7 of 8, rounded down", x.slotOf(0, 5), 0);
        x.set(1, 15);
        Check.due("15 of 8, rounded down", x.slotOf(0, 5), 1);
    }

    private static void ghostsWithoutDarkTicks() {
        Check.sentence("If setting 0 is 0");
        for (int dark = 0; dark <= 3; dark++) {
            LitDigits x = bare("-_", 1, 1);
            x.set(0, dark);
            x.pass(x.count(1));
            Check.due("ghost with " + dark + " dark ticks", x.segmentOf(1, 6, 0), dark == 0 ? 210 : 0);
        }
    }

    private static void ghostsInTheFirstLitTick() {
        Check.sentence("this is the first lit tick of the slot in the round");
        Check.dueGlows("a ghost", bare("-_", 1, 3), 1, 6, 0, 210, 0, 0, 0, 210, 0, 0);
    }

    private static void ghostsOfTheSlotNextAhead() {
        Check.sentence("the one with a time above 0 that is next ahead of it");
        Check.dueGlows("over a slot without time", bare("-8_", 1, 0, 1), 2, 6, 0, 210);
        Check.dueGlows("not of the one without time", bare("-8_", 1, 0, 1), 2, 0, 0, 0);
        Check.dueGlows("of the next one", bare("-1_", 1, 1, 1), 2, 1, 0, 0, 105);
        Check.dueGlows("not of the one before", bare("-1_", 1, 1, 1), 2, 6, 0, 0, 0);
        Check.dueGlows("not over one that shows nothing", bare("-__", 1, 1, 1), 2, 6, 0, 0, 0);
        Check.dueGlows("over four slots", bare("-8888_", 1, 0, 0, 0, 0, 1), 5, 6, 0, 210);
    }

    private static void ghostsAround() {
        Check.sentence("around, in the first round, too");
        Check.dueGlows("of the last slot", bare("_____-", 1, 0, 0, 0, 0, 1), 0, 6, 210, 0, 210);
        Check.dueGlows("of the slot behind it", bare("_-", 1, 1), 0, 6, 210, 0, 210);
        Check.dueGlows("of the last with a time", bare("__-8__", 0, 1, 1), 1, 6, 210, 0, 210);
        Check.dueGlows("with all times", bare("____--.", 1, 1, 1, 1, 1, 1), 0, 7, 105, 0, 0, 0, 0, 0, 105);
    }

    private static void noGhostsOfTheSlotItself() {
        Check.sentence("not if that is the same slot");
        Check.dueGlows("its own light alone", bare("1", 1), 0, 1, 420, 420);
        Check.dueGlows("none beside it", bare("1", 1), 0, 0, 0, 0);
        for (int slot = 0; slot < 6; slot++) {
            LitDigits x = bare("888888");
            x.show(slot, 16);
            x.time(slot, 2);
            Check.dueGlows("none of the slots without time", x, slot, 0, 0, 0, 0);
        }
    }

    private static void ghostsOfWhatWorksThere() {
        Check.sentence("that work there");
        LitDigits x = bare("8._", 1, 1);
        x.burn(0, 0);
        x.cut(1);
        x.dot(1);
        x.pass(2);
        // 840 / 6 is 140
        int[] due = {0, 0, 35, 35, 35, 35, 35, 840};
        for (int segment = 0; segment < 8; segment++) {
            Check.due("ghost of segment " + segment, x.segmentOf(1, segment, 0), due[segment]);
        }
        x.dot(1);
        x.pass(2);
        Check.due("ghost of the dot", x.segmentOf(1, 7, 0), 35);
        x.dot(0);
        x.pass(2);
        Check.due("no ghost without the dot", x.segmentOf(1, 7, 0), 0);
        Check.due("840 / 5 is 168", x.segmentOf(1, 2, 0), 42);
    }

    private static void noGhostsOnBurntSegments() {
        Check.sentence("are not burnt in this slot");
        LitDigits x = bare("8._", 1, 1);
        x.burn(1, 0);
        x.burn(1, 7);
        x.pass(2);
        int[] due = {0, 26, 26, 26, 26, 26, 26, 0};
        for (int segment = 0; segment < 8; segment++) {
            Check.due("ghost on segment " + segment, x.segmentOf(1, segment, 0), due[segment]);
        }
    }

    private static void aQuarterOfTheLight() {
        Check.sentence("get a quarter of the light that segments get there when that slot is lit");
        int[] power = {1, 3, 4, 7, 8, 2000};
        int[] ghost = {0, 0, 1, 1, 2, 500};
        for (int i = 0; i < power.length; i++) {
            LitDigits x = bare("-_", 1, 1);
            x.set(1, power[i]);
            x.pass(2);
            Check.due("ghost of " + power[i], x.segmentOf(1, 6, 0), ghost[i]);
        }
        LitDigits y = bare("8_", 1, 1);
        y.set(1, 55);
        y.pass(2);
        Check.due("a quarter of 7, not of 55 / 4 divided by 7", y.segmentOf(1, 6, 0), 1);
    }

    private static void ghostsIfNotMore() {
        Check.sentence("if they do not get more anyway");
        Check.dueGlows("a ghost of 210 on 120", bare("-8", 1, 2), 1, 6, 0, 210, 120, 0);
        Check.dueGlows("120 beside it", bare("-8", 1, 2), 1, 0, 0, 120, 120, 0);
        Check.dueGlows("a ghost of 30 on 840", bare("8-", 1, 2), 1, 6, 0, 840, 840, 0);
        Check.dueGlows("a ghost of 210 on 210", bare("-4", 1, 2), 1, 6, 0, 210, 210, 0);
    }

    private static void noGhostsWithoutTime() {
        Check.sentence("this is the first lit tick of the slot in the round");
        Check.dueGlows("a slot without time", bare("-__", 1, 0, 1), 1, 6, 0, 0, 0, 0);
    }

    private static void firstGlows() {
        Check.sentence("Each segment of each slot has a glow, at first 0.");
        LitDigits x = Check.showing("8.8.8.8.8.8.");
        for (int slot = 0; slot < 6; slot++) {
            for (int segment = 0; segment < 8; segment++) {
                Check.due("glow before the first tick", x.segmentOf(slot, segment, 0), 0);
            }
        }
        x.set(0, 0);
        x.pass(12);
        for (int segment = 0; segment < 8; segment++) {
            Check.due("each has its own", x.segmentOf(5, segment, 0), 105);
        }
        LitDigits y = bare("______.");
        y.set(2, 2);
        y.time(5, 1);
        Check.dueGlows("the last one", y, 5, 7, 840);
        y.dot(5);
        Check.dueGlows("it fades by itself", y, 5, 7, 419, 209);
        for (int segment = 0; segment < 7; segment++) {
            Check.due("those beside it are dark", y.segmentOf(5, segment, 0), 0);
        }
    }

    private static void lightOrWhatIsLeft() {
        Check.sentence("the light that the segment gets in this tick, or what is left of the glow, if that is more");
        LitDigits x = bare("-", 1);
        x.set(2, 4);
        Check.dueGlows("light", x, 0, 6, 840, 840);
        x.set(1, 629);
        Check.dueGlows("840 - 210 - 1 is as much as the light", x, 0, 6, 629, 629);
        x.set(1, 470);
        Check.dueGlows("629 - 157 - 1 is more, 471 - 117 - 1 is less", x, 0, 6, 471, 470);
        x.set(1, 471);
        Check.dueGlows("light that is more by 1", x, 0, 6, 471);
        x.show(0, 17);
        Check.dueGlows("without light", x, 0, 6, 353, 264);
    }

    private static void whatIsLeft() {
        Check.sentence("what is left of a glow is the glow less the glow divided by setting 2, and 1 less than that, at least 0");
        LitDigits x = bare("-", 1);
        x.set(0, 3);
        x.set(1, 5);
        x.set(2, 2);
        Check.dueGlows("fading 2", x, 0, 6, 0, 0, 0, 5, 2, 0, 0, 5);
        x.set(1, 1);
        x.set(2, 1);
        Check.dueGlows("fading 1 of 5 and of 1", x, 0, 6, 0, 0, 0, 1, 0, 0, 0, 1);
        x.set(2, 16);
        x.set(1, 3);
        Check.dueGlows("fading 16 takes 1 of what is below 16", x, 0, 6, 0, 0, 0, 3, 2, 1, 0, 3);
        x.set(1, 2000);
        Check.dueGlows("fading 16 of 2000", x, 0, 6, 2, 1, 0, 2000, 1874, 1756, 1646, 2000);
        x.set(1, 16);
        x.set(2, 1);
        x.set(0, 1);
        Check.dueGlows("nothing is left", x, 0, 6, 0, 16);
        x.set(2, 16);
        Check.dueGlows("16 - 1 - 1", x, 0, 6, 14, 16);
    }

    private static void glowsFadeInAllTicks() {
        Check.sentence("Behind each tick it becomes");
        LitDigits x = bare("-1", 1, 1);
        x.set(0, 1);
        x.set(2, 2);
        Check.dueGlows("dark ticks and ticks of another slot", x, 0, 6, 0, 840, 419, 209, 104, 840);
        x.time(0, 0);
        Check.dueGlows("a slot without time", x, 0, 6, 419, 209, 104, 51, 25, 12, 5, 2, 0, 0);
    }

    public static void main(String[] args) {
        divisions();
        firstTimes();
        fromTheFirstSlotOn();
        darkTicksFirst();
        noTicks();
        litTicks();
        shares();
        ghostsWithoutDarkTicks();
        ghostsInTheFirstLitTick();
        ghostsOfTheSlotNextAhead();
        ghostsAround();
        noGhostsOfTheSlotItself();
        ghostsOfWhatWorksThere();
        noGhostsOnBurntSegments();
        aQuarterOfTheLight();
        ghostsIfNotMore();
        noGhostsWithoutTime();
        firstGlows();
        lightOrWhatIsLeft();
        whatIsLeft();
        glowsFadeInAllTicks();
        Check.end();
    }
}
