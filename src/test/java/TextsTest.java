/** Promises 10 to 14: append, clearBuffer, firstError, load, write. */
public final class TextsTest {
    private static void append() {
        LitDigits x = new LitDigits();
        long before = x.digest();
        for (int i = 1; i <= 12; i++) {
            Check.due("append", x.append(i % 2 == 0 ? 33 : 126), i);
        }
        Check.due("append is not undoable", x.count(12), 0);
        Check.noState("append to a full buffer", x, () -> x.append(48));
        Check.noArgument("append: the code goes ahead", x, () -> x.append(32));
        Check.due("clearBuffer", x.clearBuffer(), 12);
        Check.due("the digest behind it", x.digest(), before);
        Check.due("clearBuffer of none", x.clearBuffer(), 0);
        Check.due("clearBuffer is not undoable", x.count(12), 0);
        Check.noArgument("append 32", x, () -> x.append(32));
        Check.noArgument("append 127", x, () -> x.append(127));
        Check.noArgument("append, a code that a char would take for 48", x, () -> x.append(65536 + 48));
    }

    private static void firstError() {
        String[] right = {"", "0", "0.", "0.0", "012345", "8.8.8.8.8.8.", "ABCDEF", "6789", "-_-", "_.", "-."};
        for (String text : right) {
            LitDigits x = new LitDigits();
            Check.type(x, text);
            long before = x.digest();
            Check.due("firstError of " + text, x.firstError(), text.length());
            Check.due("firstError changes nothing", x.digest(), before);
        }
        String[] wrong = {".", "0..", "0123456", "8.8.8.8.8.88", "a", "G", "0?", "12!", "_._..", "1x2y", "f", "@", "/", ":"};
        int[] at = {0, 2, 6, 11, 0, 0, 1, 2, 4, 1, 0, 0, 0, 0};
        for (int i = 0; i < wrong.length; i++) {
            LitDigits x = new LitDigits();
            Check.type(x, wrong[i]);
            Check.due("firstError of " + wrong[i], x.firstError(), at[i]);
            Check.noArgument("load of " + wrong[i], x, x::load);
        }
    }

    private static void load() {
        LitDigits x = new LitDigits();
        Check.noArgument("load of nothing", x, x::load);
        String signs = "0123456789ABCDEF-_";
        for (int sign = 0; sign < 18; sign++) {
            Check.type(x, signs.charAt(sign) + ".");
            Check.due("load of a sign", x.load(), 1);
            Check.due("the sign", x.slotOf(0, 0), sign);
            Check.due("its dot", x.slotOf(0, 1), 1);
        }
        Check.type(x, "F._.-9.");
        x.pass(5);
        int glow = x.segmentOf(0, 7, 0);
        long before = x.digest();
        Check.due("load", x.load(), 4);
        Check.due("load clears the buffer", x.clearBuffer(), 0);
        int[] due = {15, 17, 16, 9, 17, 17};
        int[] dots = {1, 1, 0, 1, 0, 0};
        for (int slot = 0; slot < 6; slot++) {
            Check.due("load: sign of slot " + slot, x.slotOf(slot, 0), due[slot]);
            Check.due("load: dot of slot " + slot, x.slotOf(slot, 1), dots[slot]);
        }
        Check.due("the round goes on", x.count(2), 5);
        Check.due("the glow stays", x.segmentOf(0, 7, 0), glow);
        Check.due("saved states", x.count(12), 6);
        x.undo();
        Check.due("undo: the sign before", x.slotOf(0, 0), 17);
        Check.due("undo: the dot before", x.slotOf(0, 1), 1);
        Check.due("undo leaves the buffer empty", x.clearBuffer(), 0);
        Check.type(x, "F._.-9.");
        Check.due("but for the saved states all is as before", x.count(12), 5);
        x.show(0, 17);
        Check.due("all is as before", x.digest(), before);
    }

    private static void loadTakesAwayTheRest() {
        LitDigits x = Check.showing("8.8.8.8.8.8.");
        x.burn(5, 1);
        x.cut(2);
        Check.type(x, "1");
        Check.due("load", x.load(), 1);
        for (int slot = 1; slot < 6; slot++) {
            Check.due("the other slots show nothing", x.slotOf(slot, 0), 17);
            Check.due("nor a dot", x.slotOf(slot, 1), 0);
        }
        Check.due("burnt segments stay", x.slotOf(5, 3), 2);
        Check.due("cut lines stay", x.count(7), 4);
    }

    private static void dueBuffer(String what, LitDigits x, String text) {
        LitDigits y = new LitDigits();
        Check.type(y, text);
        Check.due(what + ": length", x.clearBuffer(), text.length());
        Check.type(x, text);
        Check.due(what + ": first error", x.firstError(), y.firstError());
    }

    private static void write() {
        LitDigits x = Check.showing("0.A-F.1");
        Check.type(x, "xyz");
        int saved = x.count(12);
        long hash = x.digest();
        Check.due("write", x.write(), 8);
        Check.due("write is not undoable", x.count(12), saved);
        LitDigits y = Check.showing("0.A-F.1");
        Check.type(y, "0.A-F.1_");
        Check.due("write: the text", x.digest(), y.digest());
        Check.due("write takes the place of what was there", x.digest() == hash ? 1 : 0, 0);
        Check.due("a display that is read right can be loaded", x.load(), 6);
        LitDigits z = Check.showing("88.");
        z.burn(0, 0);
        z.cut(7);
        Check.due("write of an unread sign and a cut dot", z.write(), 6);
        Check.due("? is an error", z.firstError(), 0);
        Check.noArgument("load of ?", z, z::load);
        LitDigits w = Check.showing("88.");
        w.burn(0, 0);
        w.cut(7);
        Check.type(w, "?8____");
        Check.due("write: the text with ?", z.digest(), w.digest());
        LitDigits all = Check.showing("8.8.8.8.8.8.");
        Check.due("write of twelve", all.write(), 12);
        dueBuffer("write of twelve", all, "8.8.8.8.8.8.");
    }

    private static void writeTellsWhatIsSeen() {
        LitDigits x = Check.showing("888888");
        x.set(3, 500);
        x.set(1, 1);
        Check.due("nothing is bright enough", x.write(), 6);
        dueBuffer("nothing is bright enough", x, "______");
        LitDigits y = new LitDigits();
        Check.times(y, 1, 0, 0, 0, 0, 0);
        y.set(0, 0);
        y.set(1, 2000);
        y.set(2, 16);
        y.show(0, 16);
        y.pass(1);
        y.show(0, 17);
        y.set(3, 500);
        y.write();
        LitDigits z = new LitDigits();
        Check.times(z, 1, 0, 0, 0, 0, 0);
        z.set(0, 0);
        z.set(1, 2000);
        z.set(2, 16);
        z.show(0, 16);
        z.pass(1);
        z.show(0, 17);
        z.set(3, 500);
        Check.type(z, "-_____");
        Check.due("an afterglow is read", y.digest(), z.digest());
    }

    public static void main(String[] args) {
        append();
        firstError();
        load();
        loadTakesAwayTheRest();
        write();
        writeTellsWhatIsSeen();
        Check.end();
    }
}
