/** Promises 15 to 17: keep, goBack, undo. */
public final class SnapshotsTest {
    private static LitDigits busy() {
        LitDigits x = Check.showing("8.1");
        x.time(0, 7);
        x.set(1, 1000);
        x.burn(1, 1);
        x.cut(0);
        x.dot(5);
        x.pass(37);
        return x;
    }

    /** What stands when all is changed again, so that each part of a state is seen to come back. */
    private static void changeAll(LitDigits x) {
        x.show(0, 3);
        x.dot(0);
        x.burn(2, 2);
        x.cut(5);
        x.time(4, 9);
        x.set(0, 0);
        x.set(1, 77);
        x.set(2, 2);
        x.set(3, 44);
        x.pass(55);
    }

    private static long all(LitDigits x) {
        long hash = 0;
        for (int what = 0; what < 12; what++) {
            hash = 31 * hash + x.count(what);
        }
        for (int setting = 0; setting < 4; setting++) {
            hash = 31 * hash + x.setting(setting);
        }
        for (int slot = 0; slot < 6; slot++) {
            for (int what = 0; what < 10; what++) {
                hash = 31 * hash + x.slotOf(slot, what);
            }
            for (int segment = 0; segment < 8; segment++) {
                hash = 31 * hash + x.segmentOf(slot, segment, 0);
            }
        }
        return hash;
    }

    private static void keep() {
        LitDigits x = busy();
        long before = all(x);
        long hash = x.digest();
        Check.due("keep answers the ticks", x.keep(1), 37);
        Check.due("keep is not undoable", x.count(12), 6);
        Check.due("keep changes nothing else", all(x), before);
        Check.due("the digest tells that it is kept", x.digest() == hash ? 1 : 0, 0);
        Check.noState("goBack to the other slot", x, () -> x.goBack(0));
        changeAll(x);
        Check.due("keep anew", x.keep(0), 92);
        long changed = all(x);
        Check.due("goBack", x.goBack(1), 37);
        Check.due("all is back", all(x), before);
        Check.due("goBack to the other", x.goBack(0), 92);
        Check.due("all is as it was changed", all(x), changed);
        Check.due("the snapshot stays", x.goBack(1), 37);
        Check.due("all is back again", all(x), before);
        x.pass(3);
        Check.due("keep in place of the one there", x.keep(1), 40);
        changeAll(x);
        Check.due("goBack to the new one", x.goBack(1), 40);
        Check.noArgument("keep -1", x, () -> x.keep(-1));
        Check.noArgument("keep 2", x, () -> x.keep(2));
        Check.noArgument("goBack -1", x, () -> x.goBack(-1));
        Check.noArgument("goBack 2", x, () -> x.goBack(2));
        LitDigits y = new LitDigits();
        Check.noArgument("goBack: the slot goes ahead", y, () -> y.goBack(2));
        Check.due("keep of a new object", y.keep(0), 0);
    }

    private static void goBackLeavesTheRest() {
        LitDigits x = busy();
        x.keep(0);
        Check.type(x, "12");
        changeAll(x);
        long changed = all(x);
        x.goBack(0);
        Check.due("goBack leaves the buffer", x.firstError(), 2);
        Check.due("goBack is undoable", x.undo(), 5);
        Check.due("undo of goBack", all(x), changed);
        Check.due("undo leaves the buffer", x.clearBuffer(), 2);
        Check.due("undo leaves the snapshots", x.goBack(0), 37);
        x.pass(1);
        x.show(0, 0);
        Check.due("a snapshot is not changed with the display", x.goBack(0), 37);
    }

    private static void undo() {
        LitDigits x = new LitDigits();
        long[] states = new long[10];
        for (int i = 0; i < 10; i++) {
            states[i] = all(x);
            x.show(i % 6, i);
        }
        Check.due("saved states", x.count(12), 6);
        for (int i = 9; i >= 4; i--) {
            Check.due("undo answers how many are left", x.undo(), i - 4);
            Check.due("undo restores the latest", all(x), states[i]);
        }
        Check.noState("undo of the dropped", x, x::undo);
        x.dot(0);
        Check.due("undo goes on", x.undo(), 0);
    }

    private static void undoTakesBackAll() {
        for (int left = 0; left < 6; left++) {
            LitDigits x = busy();
            long before = all(x);
            long hash = x.digest();
            x.show(0, 3);
            x.pass(100);
            x.cut(3);
            x.set(1, 5);
            x.balance(30);
            x.burn(0, 0);
            for (int i = 0; i < left; i++) {
                x.undo();
            }
            Check.due("states left", x.count(12), 6 - left);
            for (int i = left; i < 6; i++) {
                x.undo();
            }
            Check.due("all is taken back", all(x), before);
            Check.due("but not the saved states", x.digest() == hash ? 1 : 0, 0);
        }
    }

    public static void main(String[] args) {
        keep();
        goBackLeavesTheRest();
        undo();
        undoTakesBackAll();
        Check.end();
    }
}
