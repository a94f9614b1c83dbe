/** The edges that "Settings" and promises 6 to 9 name, a test for each sentence. */
public final class TimesEdgesTest {
    private static final int[] FIRST = {1, 840, 4, 10};
    private static final int[] LEAST = {0, 1, 1, 1};
    private static final int[] MOST = {3, 2000, 16, 500};

    private static void time() {
        Check.sentence("Changes the time of a slot.");
        LitDigits x = new LitDigits();
        Check.due("the least", x.time(0, 0), 2);
        Check.due("the greatest", x.time(5, 20), 2);
        Check.dueSlots("times", x, 2, 0, 2, 2, 2, 2, 20);
        Check.sentence("Returns the time before.");
        Check.due("of none", x.time(0, 20), 0);
        Check.due("of the most", x.time(0, 20), 20);
        Check.due("of the last slot", x.time(5, 0), 20);
    }

    private static void timeRefuses() {
        LitDigits x = Check.showing("123456");
        Check.sentence("Throws `IndexOutOfBoundsException` if there is no such slot");
        Check.noIndexBeside("time", x, 0, 5, v -> x.time(v, 2));
        Check.sentence("Throws `IllegalArgumentException` if time is out of range");
        Check.noArgumentBeside("time", x, 0, 20, v -> x.time(0, v));
        Check.sentence("If several exceptions apply, the one that is named first in the throws clause is thrown.");
        Check.noIndex("time", x, () -> x.time(6, 21));
        Check.noIndex("time", x, () -> x.time(-1, -1));
    }

    private interface Change {
        void on(LitDigits x);
    }

    private static void dueAnew(String what, Change change) {
        LitDigits x = Check.showing("8");
        x.pass(18 + 5);
        change.on(x);
        Check.due(what + ": ticks of the round", x.count(2), 0);
        Check.due(what + ": ticks", x.count(0), 23);
        Check.due(what + ": rounds", x.count(4), 1);
        Check.due(what + ": glow", x.segmentOf(0, 0, 0), 66);
    }

    private static void anew() {
        Check.sentence("The round begins anew.");
        dueAnew("time", x -> x.time(0, 3));
        dueAnew("the same time", x -> x.time(0, 2));
        dueAnew("balance", x -> x.balance(60));
        dueAnew("set", x -> x.set(3, 500));
        dueAnew("set of the same", x -> x.set(3, 10));
        LitDigits x = Check.showing("8");
        x.balance(6);
        x.pass(5);
        x.balance(6);
        Check.due("balance to the same times", x.count(2), 0);
    }

    private static void balanceBeginsWithOne() {
        Check.sentence("each of these first 1, all other slots 0");
        LitDigits x = Check.showing("188888");
        Check.due("six slots", x.balance(6), 6);
        Check.dueSlots("one each", x, 2, 1, 1, 1, 1, 1, 1);
        Check.type(x, "-_-_.");
        x.load();
        x.time(1, 20);
        x.time(2, 0);
        Check.due("slots without and with a time", x.balance(6), 6);
        Check.dueSlots("none without segments that work", x, 2, 2, 0, 2, 2, 0, 0);
        x.burn(2, 6);
        x.cut(7);
        Check.due("burnt and cut segments do not work", x.balance(6), 6);
        Check.dueSlots("one slot", x, 2, 6, 0, 0, 0, 0, 0);
    }

    private static void balanceTogether() {
        Check.sentence("until the times are so many ticks together");
        LitDigits x = Check.showing("888888");
        int[] ticks = {6, 7, 12, 59, 60};
        int[][] due = {{1, 1, 1, 1, 1, 1}, {2, 1, 1, 1, 1, 1}, {2, 2, 2, 2, 2, 2}, {10, 10, 10, 10, 10, 9},
            {10, 10, 10, 10, 10, 10}};
        for (int i = 0; i < ticks.length; i++) {
            x.balance(ticks[i]);
            Check.dueSlots("balance " + ticks[i], x, 2, due[i]);
        }
    }

    private static void balanceAnswers() {
        Check.sentence("Returns how many ticks the times are together then.");
        LitDigits x = Check.showing("8____1");
        int[] ticks = {6, 7, 39, 40, 41, 60};
        int[] due = {6, 7, 39, 40, 40, 40};
        for (int i = 0; i < ticks.length; i++) {
            Check.due("balance " + ticks[i], x.balance(ticks[i]), due[i]);
            Check.due("ticks of a round with two dark ones", x.count(1), due[i] + 2);
        }
    }

    private static void balanceByFractions() {
        Check.sentence("one more to the slot whose time, divided by how many of its segments work, is the least "
            + "(compared as fractions)");
        LitDigits x = Check.showing("18");
        x.balance(6);
        Check.dueSlots("1/2 is less than 4/7", x, 2, 2, 4);
        x.balance(7);
        Check.dueSlots("4/7 is less than 2/2", x, 2, 2, 5);
        Check.type(x, "8.8");
        x.load();
        x.balance(15);
        Check.dueSlots("7/8 is less than 7/7", x, 2, 8, 7);
        Check.type(x, "80");
        x.load();
        x.balance(26);
        Check.dueSlots("13/7 is less than 12/6", x, 2, 14, 12);
    }

    private static void balanceOfSeveral() {
        Check.sentence("of several the lowest");
        LitDigits x = Check.showing("-1");
        x.balance(7);
        Check.dueSlots("2/1 and 4/2", x, 2, 3, 4);
        Check.type(x, "1-");
        x.load();
        x.balance(7);
        Check.dueSlots("4/2 and 2/1", x, 2, 5, 2);
        Check.type(x, "___---");
        x.load();
        x.balance(8);
        Check.dueSlots("alike ones", x, 2, 0, 0, 0, 3, 3, 2);
    }

    private static void balanceToNoneAbove() {
        Check.sentence("but to none above 20");
        LitDigits x = Check.showing("8811");
        x.balance(60);
        Check.dueSlots("the others go on", x, 2, 20, 20, 10, 10, 0, 0);
        x.balance(52);
        Check.dueSlots("both are full", x, 2, 20, 20, 6, 6, 0, 0);
        Check.sentence("(fewer, if the slots can take no more)");
        Check.type(x, "_____.");
        x.load();
        Check.due("just what one slot takes", x.balance(20), 20);
        Check.due("one more", x.balance(21), 20);
        Check.due("the most", x.balance(60), 20);
        Check.dueSlots("one slot", x, 2, 0, 0, 0, 0, 20, 0);
        Check.type(x, "8____1");
        x.load();
        Check.due("two slots", x.balance(41), 40);
        Check.dueSlots("two slots", x, 2, 20, 0, 0, 0, 0, 20);
        x.show(3, 0);
        Check.due("three slots take all", x.balance(60), 60);
    }

    private static void balanceRefuses() {
        LitDigits x = Check.showing("8");
        Check.sentence("Throws `IllegalArgumentException` if ticks is out of range");
        Check.noArgumentBeside("balance", x, 6, 60, x::balance);
        Check.sentence("Throws `IllegalStateException` if no slot has a segment that works");
        LitDigits y = new LitDigits();
        Check.noState("balance of a new object", y, () -> y.balance(6));
        y.show(5, 16);
        y.burn(5, 6);
        Check.noState("balance with all burnt", y, () -> y.balance(60));
        y.burn(5, 6);
        y.cut(6);
        Check.noState("balance with all cut", y, () -> y.balance(60));
        y.dot(0);
        Check.due("a dot is enough", y.balance(6), 6);
        y.dot(0);
        Check.sentence("If several exceptions apply, the one that is named first in the throws clause is thrown.");
        Check.noArgument("balance 5", y, () -> y.balance(5));
        Check.noArgument("balance 61", y, () -> y.balance(61));
    }

    private static void firstSettings() {
        Check.sentence("0: dark ticks, 0 to 3, at first 1; 1: power, 1 to 2000, at first 840; 2: fading, 1 to 16, at first 4; "
            + "3: what is seen, 1 to 500, at first 10.");
        LitDigits x = new LitDigits();
        for (int i = 0; i < 4; i++) {
            Check.due("at first", x.setting(i), FIRST[i]);
            x.set(i, LEAST[i]);
            Check.due("the least of " + i, x.setting(i), LEAST[i]);
            x.set(i, MOST[i]);
            Check.due("the most of " + i, x.setting(i), MOST[i]);
        }
    }

    private static void set() {
        Check.sentence("Returns the previous value.");
        LitDigits x = new LitDigits();
        for (int i = 0; i < 4; i++) {
            Check.due("first value of " + i, x.set(i, MOST[i]), FIRST[i]);
            Check.due("the most of " + i, x.set(i, LEAST[i]), MOST[i]);
            Check.due("the least of " + i, x.set(i, LEAST[i]), LEAST[i]);
        }
        Check.sentence("Throws `IllegalArgumentException` if value is out of range");
        for (int i = 0; i < 4; i++) {
            int setting = i;
            Check.noArgumentBeside("set " + i, x, LEAST[i], MOST[i], v -> x.set(setting, v));
        }
        Check.sentence("Throws `IndexOutOfBoundsException` if there is no such setting");
        Check.noIndexBeside("set", x, 0, 3, v -> x.set(v, 1));
        Check.sentence("If several exceptions apply, the one that is named first in the throws clause is thrown.");
        Check.noIndex("set", x, () -> x.set(4, -1));
        Check.noIndex("set", x, () -> x.set(-1, 5000));
    }

    private static void passTicks() {
        Check.sentence("Lets ticks go by.");
        LitDigits x = Check.showing("-");
        Check.due("the fewest", x.pass(1), 0);
        Check.due("ticks", x.count(0), 1);
        Check.due("the most", x.pass(200), 11);
        Check.due("ticks", x.count(0), 201);
        Check.due("ticks of the round", x.count(2), 201 - 11 * 18);
        Check.due("glow behind 201 ticks, as many as behind 3", x.segmentOf(0, 6, 0), 840);
        Check.sentence("Throws `IllegalArgumentException` if ticks is out of range");
        Check.noArgumentBeside("pass", x, 1, 200, x::pass);
    }

    private static void passRounds() {
        Check.sentence("Returns how many rounds are ended in them.");
        LitDigits x = new LitDigits();
        Check.due("one tick short of a round", x.pass(17), 0);
        Check.due("its last tick", x.pass(1), 1);
        Check.due("just a round", x.pass(18), 1);
        Check.due("one tick short of two", x.pass(35), 1);
        Check.due("one more tick", x.pass(1), 1);
        Check.due("two rounds from within one", x.pass(9) + x.pass(36), 2);
        Check.due("rounds so far", x.count(4), 6);
        x.set(0, 0);
        Check.times(x, 0, 0, 0, 1, 0, 0);
        Check.due("rounds of one tick", x.pass(200), 200);
        Check.due("all rounds so far", x.count(4), 206);
    }

    private static void passWithoutTicks() {
        Check.sentence("Throws `IllegalStateException` if a round has no ticks");
        LitDigits x = Check.showing("8");
        Check.times(x, 0, 0, 0, 0, 0, 0);
        Check.noState("pass 1", x, () -> x.pass(1));
        Check.noState("pass 200", x, () -> x.pass(200));
        Check.sentence("If several exceptions apply, the one that is named first in the throws clause is thrown.");
        Check.noArgument("pass 0", x, () -> x.pass(0));
        Check.noArgument("pass 201", x, () -> x.pass(201));
    }

    private static void mostTicks() {
        Check.sentence("or more than 99999 ticks would have gone by");
        LitDigits x = new LitDigits();
        for (int i = 0; i < 400; i++) {
            x.pass(200);
        }
        x.keep(0);
        for (int i = 0; i < 99; i++) {
            x.pass(200);
        }
        Check.noState("100000", x, () -> x.pass(200));
        Check.due("99999", x.pass(199), 11);
        Check.noState("100000 by one", x, () -> x.pass(1));
        x.undo();
        Check.due("behind an undo there is room again", x.pass(198), 11);
        Check.due("one more", x.pass(1), 0);
    }

    private static void mostTicksGoBack() {
        Check.sentence("or more than 99999 ticks would have gone by");
        LitDigits x = new LitDigits();
        x.keep(1);
        for (int i = 0; i < 499; i++) {
            x.pass(200);
        }
        x.pass(199);
        Check.due("ticks", x.count(0), 99999);
        x.goBack(1);
        Check.due("behind goBack there is room again", x.pass(200), 11);
        Check.due("ticks", x.count(0), 200);
    }

    private static void undoable() {
        Check.sentence("Undoable.");
        LitDigits x = Check.showing("81");
        x.pass(7);
        Check.undoable("time", x, () -> x.time(0, 20));
        Check.undoable("the same time", x, () -> x.time(0, 2));
        Check.undoable("balance", x, () -> x.balance(60));
        Check.undoable("set", x, () -> x.set(1, 2000));
        Check.undoable("set of the same", x, () -> x.set(1, 840));
        x.balance(30);
        Check.undoable("balance to the same times", x, () -> x.balance(30));
        Check.sentence("Undoable, as one call.");
        Check.undoable("the fewest ticks", x, () -> x.pass(1));
        Check.undoable("the most ticks", x, () -> x.pass(200));
    }

    public static void main(String[] args) {
        time();
        timeRefuses();
        anew();
        balanceBeginsWithOne();
        balanceTogether();
        balanceAnswers();
        balanceByFractions();
        balanceOfSeveral();
        balanceToNoneAbove();
        balanceRefuses();
        firstSettings();
        set();
        passTicks();
        passRounds();
        passWithoutTicks();
        mostTicks();
        mostTicksGoBack();
        undoable();
        Check.end();
    }
}
