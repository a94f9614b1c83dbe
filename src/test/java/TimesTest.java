/** Promises 6 to 9: time, balance, set, pass. */
public final class TimesTest {
    private static void time() {
        LitDigits x = Check.showing("8");
        x.pass(4);
        long before = x.digest();
        Check.due("time answers the one before", x.time(5, 20), 2);
        Check.due("time: property", x.slotOf(5, 2), 20);
        Check.due("time: another slot", x.slotOf(4, 2), 2);
        Check.due("time: ticks of a round", x.count(1), 36);
        Check.due("time: the round begins anew", x.count(2), 0);
        Check.due("time: ticks stay counted", x.count(0), 4);
        Check.due("time: glows stay", x.segmentOf(0, 0, 0), 89);
        Check.undone("time", x, before, 2);
        Check.due("time of none", x.time(0, 0), 2);
        Check.due("a slot without time has no dark ticks", x.count(1), 15);
        x.pass(5);
        Check.due("the same time begins the round anew too", x.time(0, 0), 0);
        Check.due("the round began anew", x.count(2), 0);
        Check.noIndex("time slot -1", x, () -> x.time(-1, 0));
        Check.noIndex("time slot 6", x, () -> x.time(6, 0));
        Check.noIndex("time: the slot goes ahead", x, () -> x.time(6, 21));
        Check.noArgument("time -1", x, () -> x.time(0, -1));
        Check.noArgument("time 21", x, () -> x.time(0, 21));
    }

    private static void dueTimes(String what, LitDigits x, int... times) {
        for (int slot = 0; slot < 6; slot++) {
            Check.due(what + ", time of slot " + slot, x.slotOf(slot, 2), times[slot]);
        }
    }

    private static void balance() {
        LitDigits x = Check.showing("18");
        x.pass(7);
        long before = x.digest();
        Check.due("balance 6", x.balance(6), 6);
        dueTimes("balance 6", x, 2, 4, 0, 0, 0, 0);
        Check.due("balance: the round begins anew", x.count(2), 0);
        Check.due("balance: ticks stay counted", x.count(0), 7);
        Check.undone("balance", x, before, 2);
        Check.due("balance 7: 2/2 is more than 4/7", x.balance(7), 7);
        dueTimes("balance 7", x, 2, 5, 0, 0, 0, 0);
        Check.due("balance 60 of two slots", x.balance(60), 40);
        dueTimes("balance 60", x, 20, 20, 0, 0, 0, 0);
        LitDigits y = Check.showing("_8_8_8");
        Check.due("balance of alike slots", y.balance(8), 8);
        dueTimes("balance of alike slots, the lowest first", y, 0, 3, 0, 3, 0, 2);
        y.cut(0);
        y.burn(1, 2);
        y.dot(2);
        Check.due("balance with a dot alone", y.balance(22), 22);
        dueTimes("balance of 0, 5, 1, 6, 0 and 6 segments", y, 0, 6, 2, 7, 0, 7);
        Check.noArgument("balance 5", x, () -> x.balance(5));
        Check.noArgument("balance 61", x, () -> x.balance(61));
        LitDigits none = new LitDigits();
        Check.noState("balance without segments", none, () -> none.balance(6));
        Check.noArgument("balance: ticks go ahead", none, () -> none.balance(61));
        none.show(3, 16);
        none.burn(3, 6);
        Check.noState("balance with a burnt segment", none, () -> none.balance(60));
        none.burn(3, 6);
        Check.due("balance of one slot", none.balance(60), 20);
    }

    private static void set() {
        int[] before = {1, 840, 4, 10};
        int[] least = {0, 1, 1, 1};
        int[] most = {3, 2000, 16, 500};
        for (int i = 0; i < 4; i++) {
            int setting = i;
            LitDigits x = Check.showing("8");
            x.pass(5);
            long digest = x.digest();
            Check.due("set to the most", x.set(setting, most[i]), before[i]);
            Check.due("set: setting", x.setting(setting), most[i]);
            Check.due("set: the round begins anew", x.count(2), 0);
            Check.due("set: glows stay", x.segmentOf(0, 0, 0), 66);
            Check.undone("set", x, digest, 2);
            Check.due("set to the least", x.set(setting, least[i]), before[i]);
            Check.due("set: the previous value", x.set(setting, least[i]), least[i]);
            Check.noArgument("set too little", x, () -> x.set(setting, least[setting] - 1));
            Check.noArgument("set too much", x, () -> x.set(setting, most[setting] + 1));
        }
        LitDigits x = new LitDigits();
        Check.noIndex("set -1", x, () -> x.set(-1, 1));
        Check.noIndex("set 4", x, () -> x.set(4, 1));
        Check.noIndex("set: the setting goes ahead", x, () -> x.set(4, -1));
    }

    private static void settingsWork() {
        LitDigits x = Check.showing("8");
        x.set(0, 3);
        Check.due("dark ticks", x.count(1), 30);
        x.set(0, 0);
        Check.due("no dark ticks", x.count(1), 12);
        x.set(1, 2000);
        Check.due("power, rounded down", x.slotOf(0, 5), 285);
        x.set(1, 6);
        Check.due("little power", x.slotOf(0, 5), 0);
    }

    private static void pass() {
        LitDigits x = Check.showing("8");
        int[] glows = {0, 120, 120, 89, 66, 49, 36, 26, 19, 14, 10, 7, 5, 3, 2, 1, 0, 0, 0, 120};
        for (int i = 0; i < glows.length; i++) {
            Check.due("pass of tick " + i, x.pass(1), i == 17 ? 1 : 0);
            Check.due("glow behind tick " + i, x.segmentOf(0, 6, 0), glows[i]);
            Check.due("glow of a dot that is not there", x.segmentOf(0, 7, 0), 0);
            Check.due("ticks", x.count(0), i + 1);
            Check.due("ticks of the round", x.count(2), (i + 1) % 18);
            Check.due("rounds", x.count(4), i < 17 ? 0 : 1);
        }
        LitDigits y = Check.showing("8");
        long before = y.digest();
        Check.due("pass of 20", y.pass(20), 1);
        Check.due("glow behind 20 ticks", y.segmentOf(0, 6, 0), 120);
        Check.undone("pass, as one call", y, before, 1);
        Check.due("pass of 200", y.pass(200), 11);
        Check.due("position", y.count(2), 2);
        Check.due("rounds that are ended go on counting", y.pass(16), 1);
        Check.due("rounds", y.count(4), 12);
        Check.noArgument("pass 0", y, () -> y.pass(0));
        Check.noArgument("pass 201", y, () -> y.pass(201));
        Check.noArgument("pass -1", y, () -> y.pass(Integer.MIN_VALUE));
        Check.times(y, 0, 0, 0, 0, 0, 0);
        Check.noState("pass without ticks in a round", y, () -> y.pass(1));
        Check.noArgument("pass: ticks go ahead", y, () -> y.pass(201));
    }

    private static void passFadesWithoutLight() {
        LitDigits x = Check.showing("-");
        Check.times(x, 1, 1, 0, 0, 0, 0);
        x.set(2, 1);
        x.pass(2);
        Check.due("lit", x.segmentOf(0, 6, 0), 840);
        x.pass(1);
        Check.due("fading 1 leaves nothing", x.segmentOf(0, 6, 0), 0);
        x.pass(3);
        x.set(2, 16);
        x.time(0, 0);
        x.pass(1);
        Check.due("a slot without time fades: 840 - 52 - 1", x.segmentOf(0, 6, 0), 787);
        x.time(0, 1);
        x.burn(0, 6);
        x.pass(2);
        Check.due("a burnt segment fades: 737, 690", x.segmentOf(0, 6, 0), 690);
        x.burn(0, 6);
        x.set(1, 500);
        x.pass(2);
        Check.due("what is left is more than the light: 646, 605", x.segmentOf(0, 6, 0), 605);
    }

    private static void mostTicks() {
        LitDigits x = new LitDigits();
        for (int i = 0; i < 499; i++) {
            x.pass(200);
        }
        Check.due("ticks", x.count(0), 99800);
        Check.noState("pass beyond 99999", x, () -> x.pass(200));
        Check.due("pass to 99999", x.pass(199), 11);
        Check.due("ticks", x.count(0), 99999);
        Check.noState("pass at 99999", x, () -> x.pass(1));
        Check.noArgument("pass: ticks go ahead", x, () -> x.pass(0));
    }

    private static void ghosts() {
        LitDigits x = Check.showing("8");
        Check.times(x, 2, 2, 0, 0, 0, 0);
        x.set(2, 1);
        x.pass(6);
        Check.due("no ghosts with dark ticks", x.segmentOf(1, 0, 0), 0);
        x.set(0, 0);
        x.pass(3);
        Check.due("a ghost is a quarter", x.segmentOf(1, 0, 0), 30);
        Check.due("no ghost of a dot that is not there", x.segmentOf(1, 7, 0), 0);
        x.pass(1);
        Check.due("a ghost in the first lit tick alone", x.segmentOf(1, 0, 0), 0);
        x.burn(1, 0);
        x.burn(0, 1);
        x.cut(2);
        x.pass(3);
        Check.due("no ghost where it is burnt", x.segmentOf(1, 0, 0), 0);
        Check.due("no ghost of a burnt segment", x.segmentOf(1, 1, 0), 0);
        Check.due("no ghost of a cut line", x.segmentOf(1, 2, 0), 0);
        Check.due("a ghost of 168", x.segmentOf(1, 3, 0), 42);
        x.pass(2);
        Check.due("no ghost of a slot that shows nothing", x.segmentOf(0, 3, 0), 168);
    }

    private static void noGhostsWithoutTime() {
        LitDigits x = Check.showing("8-1");
        x.set(0, 0);
        Check.times(x, 2, 0, 2, 0, 0, 0);
        x.pass(4);
        Check.due("a slot without time is never lit first", x.segmentOf(1, 0, 0), 0);
        Check.due("nor seen", x.slotOf(1, 6), 0);
    }

    private static void ghostsAround() {
        LitDigits x = Check.showing("8____-.");
        x.set(0, 0);
        x.set(2, 1);
        Check.times(x, 1, 0, 0, 0, 0, 3);
        x.pass(1);
        Check.due("a ghost of the last slot, in the first round too", x.segmentOf(0, 7, 0), 105);
        Check.due("its own light is more", x.segmentOf(0, 6, 0), 120);
        Check.due("its own light", x.segmentOf(0, 0, 0), 120);
        x.pass(1);
        Check.due("a ghost over slots without time", x.segmentOf(5, 0, 0), 30);
        x.set(1, 2000);
        x.show(0, 16);
        x.show(5, 8);
        x.time(0, 3);
        x.pass(4);
        Check.due("a ghost of 2000 is more than 250", x.segmentOf(5, 6, 0), 500);
        Check.due("250 beside it", x.segmentOf(5, 5, 0), 250);
        x.time(5, 0);
        x.pass(1);
        Check.due("no ghost of the slot itself", x.segmentOf(0, 6, 0), 2000);
        Check.due("no ghost of a slot without time", x.segmentOf(0, 7, 0), 0);
        x.time(3, 1);
        x.time(5, 1);
        x.pass(5);
        Check.due("the slot next ahead is dark, so no ghost", x.segmentOf(5, 6, 0), 250);
    }

    public static void main(String[] args) {
        time();
        balance();
        set();
        settingsWork();
        pass();
        passFadesWithoutLight();
        mostTicks();
        ghosts();
        noGhostsWithoutTime();
        ghostsAround();
        Check.end();
    }
}
