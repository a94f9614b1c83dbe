/** The edges that "Snapshots, undo", "Exceptions" and promises 15 to 17 name, a test for each sentence. */
public final class SnapshotsEdgesTest {
    private interface Change {
        void on(LitDigits x);
    }

    /** Each changes a part of a state of its own. */
    private static final Change[] CHANGES = {
        x -> x.show(0, 3), x -> x.show(5, 17), x -> x.dot(0), x -> x.dot(5), x -> x.burn(0, 0), x -> x.burn(5, 7),
        x -> x.cut(0), x -> x.cut(7), x -> x.time(0, 0), x -> x.time(5, 20), x -> x.balance(60), x -> x.set(0, 3),
        x -> x.set(1, 1), x -> x.set(2, 16), x -> x.set(3, 500), x -> x.pass(1), x -> x.pass(200),
        x -> {
            Check.type(x, "F.");
            x.load();
        },
    };

    private static LitDigits busy() {
        LitDigits x = Check.showing("8.1-__2");
        x.time(0, 7);
        x.burn(1, 1);
        x.cut(0);
        x.pass(47);
        return x;
    }

    private static void twoSlots() {
        Check.sentence("There are two slots for snapshots");
        LitDigits x = new LitDigits();
        x.pass(1);
        x.keep(0);
        x.pass(1);
        Check.noState("the other one is empty", x, () -> x.goBack(1));
        x.keep(1);
        x.pass(1);
        Check.due("the first", x.goBack(0), 1);
        Check.due("the second", x.goBack(1), 2);
        Check.due("the first again", x.goBack(0), 1);
    }

    private static void whatASnapshotIs() {
        Check.sentence("a snapshot is all but the buffer, these slots and the saved states");
        for (int i = 0; i < CHANGES.length; i++) {
            LitDigits x = busy();
            long before = Check.stateOf(x);
            x.keep(1);
            CHANGES[i].on(x);
            x.goBack(1);
            Check.due("all is back behind change " + i, Check.stateOf(x), before);
        }
        LitDigits x = busy();
        x.append(48);
        x.keep(0);
        x.append(49);
        x.keep(1);
        x.undo();
        int saved = x.count(12);
        Check.due("goBack", x.goBack(0), 47);
        Check.due("the buffer stays", x.firstError(), 2);
        Check.due("a state more is saved", x.count(12), saved + 1);
        Check.due("the other snapshot stays", x.goBack(1), 47);
    }

    private static void undoBringsAllBack() {
        Check.sentence("all, also what is counted so far, but the buffer, the slots for snapshots and the saved states");
        for (int i = 0; i < CHANGES.length; i++) {
            LitDigits x = busy();
            long before = Check.stateOf(x);
            CHANGES[i].on(x);
            Check.due("change " + i + " changes what can be seen", Check.stateOf(x) == before ? 1 : 0, 0);
            x.undo();
            Check.due("all is back behind change " + i, Check.stateOf(x), before);
        }
        LitDigits x = new LitDigits();
        x.pass(36);
        x.undo();
        Check.due("ticks", x.count(0), 0);
        Check.due("rounds", x.count(4), 0);
        x.append(48);
        x.pass(5);
        x.append(49);
        x.keep(0);
        x.undo();
        Check.due("the buffer stays", x.firstError(), 2);
        Check.due("the snapshot stays", x.goBack(0), 5);
    }

    private static void allThatIsUndoable() {
        Check.sentence("saves the state from before it (also if it changes nothing)");
        LitDigits x = new LitDigits();
        x.show(0, 8);
        Check.undoable("show of the same", x, () -> x.show(0, 8));
        Check.undoable("the same time", x, () -> x.time(0, 2));
        Check.undoable("set of the same", x, () -> x.set(0, 1));
        x.keep(0);
        Check.undoable("goBack to what is there", x, () -> x.goBack(0));
        x.balance(6);
        Check.undoable("balance to the same times", x, () -> x.balance(6));
        Check.type(x, "8");
        Check.saves("load of what is shown", x, 1, x::load);
    }

    private static void notUndoable() {
        Check.sentence("Each method that is marked \"undoable\"");
        LitDigits x = busy();
        x.undo();
        x.undo();
        Check.saves("keep", x, 0, () -> x.keep(0));
        Check.saves("undo drops one", x, -1, x::undo);
        Check.saves("looks", x, 0, () -> x.slotOf(0, 9) + x.segmentOf(0, 0, 1) + x.count(11) + x.setting(0));
        Check.saves("what would be", x, 0,
            () -> x.couldBe(0, 0) + x.ifTimed(0, 3) + x.ifBalanced(6, 0) + x.safest(0) + x.digest());
    }

    private static void refusedSavesNothing() {
        Check.sentence("and does not throw an exception");
        LitDigits x = new LitDigits();
        x.dot(0);
        x.dot(0);
        Check.saves("refused calls", x, 0, () -> {
            Check.noArgument("show", x, () -> x.show(0, 18));
            Check.noIndex("dot", x, () -> x.dot(6));
            Check.noIndex("burn", x, () -> x.burn(0, 8));
            Check.noIndex("cut", x, () -> x.cut(8));
            Check.noArgument("time", x, () -> x.time(0, 21));
            Check.noArgument("balance", x, () -> x.balance(5));
            Check.noState("balance", x, () -> x.balance(6));
            Check.noArgument("set", x, () -> x.set(0, 4));
            Check.noArgument("pass", x, () -> x.pass(0));
            Check.noArgument("load", x, x::load);
            Check.noState("goBack", x, () -> x.goBack(0));
            return 0;
        });
        Check.due("undo goes to what is before the last call", x.undo(), 1);
        Check.due("dot", x.slotOf(0, 1), 1);
    }

    private static void sixStates() {
        Check.sentence("At most 6 states are saved; the oldest one is dropped first.");
        for (int changes = 0; changes <= 20; changes++) {
            LitDigits x = new LitDigits();
            for (int i = 1; i <= changes; i++) {
                x.set(1, i);
            }
            int saved = Math.min(6, changes);
            Check.due("saved states behind " + changes, x.count(12), saved);
            for (int left = saved - 1; left >= 0; left--) {
                Check.due("undo", x.undo(), left);
                int back = changes - saved + left;
                Check.due("power, " + left + " left", x.setting(1), back == 0 ? 840 : back);
            }
            Check.noState("undo", x, x::undo);
        }
    }

    private static void savedAndUndoneInTurn() {
        Check.sentence("At most 6 states are saved; the oldest one is dropped first.");
        LitDigits x = new LitDigits();
        for (int i = 1; i <= 9; i++) {
            x.set(1, i);
        }
        for (int left = 5; left >= 2; left--) {
            Check.due("undo", x.undo(), left);
        }
        Check.due("power", x.setting(1), 5);
        for (int i = 101; i <= 105; i++) {
            x.set(1, i);
        }
        Check.due("saved states", x.count(12), 6);
        int[] due = {104, 103, 102, 101, 5, 4};
        for (int power : due) {
            x.undo();
            Check.due("power", x.setting(1), power);
        }
        Check.noState("undo", x, x::undo);
    }

    private static void keep() {
        LitDigits x = new LitDigits();
        Check.sentence("Returns how many ticks went by.");
        Check.due("none", x.keep(0), 0);
        x.pass(200);
        Check.due("some", x.keep(1), 200);
        Check.sentence("Takes a snapshot, in place of the one in the slot for snapshots.");
        x.pass(1);
        x.keep(0);
        x.pass(1);
        Check.due("the new one", x.goBack(0), 201);
        Check.due("the other one stays", x.goBack(1), 200);
        Check.sentence("Throws `IllegalArgumentException` if slot is out of range");
        Check.noArgumentBeside("keep", x, 0, 1, x::keep);
    }

    private static void goBack() {
        LitDigits x = new LitDigits();
        x.pass(20);
        x.keep(1);
        x.pass(100);
        Check.sentence("Returns how many ticks went by then.");
        Check.due("goBack", x.goBack(1), 20);
        Check.due("ticks", x.count(0), 20);
        Check.due("ticks of the round", x.count(2), 2);
        Check.due("rounds", x.count(4), 1);
        Check.sentence("Goes back to a snapshot, which stays.");
        x.pass(3);
        x.show(0, 1);
        Check.due("goBack once more", x.goBack(1), 20);
        Check.due("what was changed behind it", x.slotOf(0, 0), 17);
        Check.sentence("Undoable.");
        x.undo();
        Check.due("undo of goBack", x.count(0), 23);
        Check.due("undo of goBack", x.slotOf(0, 0), 1);
    }

    private static void goBackRefuses() {
        LitDigits x = busy();
        x.keep(0);
        Check.sentence("Throws `IllegalArgumentException` if slot is out of range");
        Check.noArgumentBeside("goBack", x, 0, 1, x::goBack);
        Check.sentence("Throws `IllegalStateException` if there is no snapshot in it");
        Check.noState("goBack 1", x, () -> x.goBack(1));
        LitDigits y = new LitDigits();
        y.keep(1);
        Check.noState("goBack 0", y, () -> y.goBack(0));
        Check.sentence("If several exceptions apply, the one that is named first in the throws clause is thrown.");
        LitDigits z = new LitDigits();
        Check.noArgument("goBack 2", z, () -> z.goBack(2));
        Check.noArgument("goBack -1", z, () -> z.goBack(-1));
    }

    private static void undo() {
        Check.sentence("Throws `IllegalStateException` if there is none");
        LitDigits x = new LitDigits();
        Check.noState("a new object", x, x::undo);
        x.append(48);
        x.keep(0);
        Check.noState("without an undoable call", x, x::undo);
        x.dot(0);
        Check.sentence("Returns how many saved states are left.");
        Check.due("none", x.undo(), 0);
        Check.noState("undo is not undoable", x, x::undo);
        for (int i = 0; i < 7; i++) {
            x.dot(i % 6);
        }
        Check.due("five", x.undo(), 5);
        Check.sentence("Restores the latest saved state, and drops it.");
        Check.dueSlots("the seventh dot is taken back", x, 1, 1, 1, 1, 1, 1, 1);
        x.undo();
        Check.dueSlots("the sixth too", x, 1, 1, 1, 1, 1, 1, 0);
    }

    private static void refuse(LitDigits x) {
        Check.noIndex("show", x, () -> x.show(6, 0));
        Check.noArgument("show", x, () -> x.show(0, 18));
        Check.noIndex("dot", x, () -> x.dot(-1));
        Check.noIndex("burn", x, () -> x.burn(0, 8));
        Check.noIndex("cut", x, () -> x.cut(-1));
        Check.noArgument("time", x, () -> x.time(0, 21));
        Check.noArgument("balance", x, () -> x.balance(61));
        Check.noArgument("set", x, () -> x.set(3, 0));
        Check.noArgument("pass", x, () -> x.pass(201));
        Check.noState("append", x, () -> x.append(48));
        Check.noArgument("load", x, x::load);
        Check.noArgument("keep", x, () -> x.keep(2));
        Check.noArgument("goBack", x, () -> x.goBack(2));
        Check.noState("goBack", x, () -> x.goBack(1));
        Check.noArgument("slotOf", x, () -> x.slotOf(0, 10));
        Check.noArgument("segmentOf", x, () -> x.segmentOf(0, 0, 4));
        Check.noArgument("count", x, () -> x.count(13));
        Check.noIndex("setting", x, () -> x.setting(4));
        Check.noArgument("couldBe", x, () -> x.couldBe(0, 2));
        Check.noArgument("ifTimed", x, () -> x.ifTimed(0, 21));
        Check.noArgument("ifBalanced", x, () -> x.ifBalanced(5, 0));
        Check.noIndex("safest", x, () -> x.safest(6));
    }

    /** What the digest does not tell, the saved states and the snapshots, is drawn out of both and compared. */
    private static void refusedChangesNothing() {
        Check.sentence("A call that throws an exception changes nothing (the buffer stays as it is, too).");
        LitDigits x = busy();
        LitDigits y = busy();
        x.keep(0);
        y.keep(0);
        x.show(3, 5);
        y.show(3, 5);
        Check.type(x, "8.8.8.8.8.8?");
        Check.type(y, "8.8.8.8.8.8?");
        refuse(x);
        Check.due("all that the digest tells", x.digest(), y.digest());
        Check.due("the snapshot", x.goBack(0), y.goBack(0));
        Check.due("what it holds", x.digest(), y.digest());
        for (int left = 5; left >= 0; left--) {
            Check.due("undo", x.undo(), left);
            y.undo();
            Check.due("what was saved", x.digest(), y.digest());
        }
        Check.due("the buffer", x.firstError(), 11);
        Check.due("the buffer", x.clearBuffer(), 12);
    }

    private static void firstOfSeveral() {
        Check.sentence("If several exceptions apply, the one that is named first in the throws clause is thrown.");
        LitDigits x = new LitDigits();
        Check.noIndex("show", x, () -> x.show(6, 18));
        Check.noIndex("time", x, () -> x.time(6, 21));
        Check.noArgument("balance", x, () -> x.balance(5));
        Check.noIndex("set", x, () -> x.set(4, 5000));
        Check.noArgument("goBack", x, () -> x.goBack(2));
        Check.noIndex("slotOf", x, () -> x.slotOf(6, 10));
        Check.noIndex("segmentOf slot", x, () -> x.segmentOf(6, 0, 4));
        Check.noIndex("segmentOf segment", x, () -> x.segmentOf(0, 8, 4));
        Check.noIndex("couldBe", x, () -> x.couldBe(6, 2));
        Check.noIndex("ifTimed", x, () -> x.ifTimed(6, 21));
        Check.noIndex("ifBalanced", x, () -> x.ifBalanced(5, 6));
        Check.times(x, 0, 0, 0, 0, 0, 0);
        Check.noArgument("pass", x, () -> x.pass(0));
        Check.type(x, "012345678901");
        Check.noArgument("append", x, () -> x.append(127));
    }

    /** An object is used for at most 512 calls: the last of them answers as the others do. */
    private static void theLastCall() {
        Check.sentence("An object is used for at most 512 calls after it has been made");
        LitDigits x = new LitDigits();
        for (int i = 1; i <= 511; i++) {
            x.show(i % 6, i % 18);
        }
        Check.due("the call 512", x.show(1, 17), 511 % 18);
    }

    public static void main(String[] args) {
        twoSlots();
        whatASnapshotIs();
        undoBringsAllBack();
        allThatIsUndoable();
        notUndoable();
        refusedSavesNothing();
        sixStates();
        savedAndUndoneInTurn();
        keep();
        goBack();
        goBackRefuses();
        undo();
        refusedChangesNothing();
        firstOfSeveral();
        theLastCall();
        Check.end();
    }
}
