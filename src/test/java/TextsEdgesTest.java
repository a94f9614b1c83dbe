/** The edges that "Input text" and promises 10 to 14 name, a test for each sentence. */
public final class TextsEdgesTest {
    private static final String SIGNS = "0123456789ABCDEF-_";

    private static LitDigits typed(String text) {
        LitDigits x = new LitDigits();
        Check.type(x, text);
        return x;
    }

    /** The buffer cannot be read but by the digest: typing the same text must not change it. */
    private static void dueText(String what, LitDigits x, String text) {
        long before = x.digest();
        Check.type(x, text);
        Check.due(what + ": the digest with " + text, before, x.digest());
    }

    private static void twelveCharacters() {
        Check.sentence("The buffer has at most 12 characters.");
        LitDigits x = new LitDigits();
        for (int i = 1; i <= 12; i++) {
            Check.due("append", x.append(48), i);
        }
        Check.noState("a thirteenth", x, () -> x.append(48));
        Check.due("clearBuffer", x.clearBuffer(), 12);
        Check.due("room again", x.append(48), 1);
    }

    private static void oneToSixSigns() {
        Check.sentence("A display as a text is one to six signs");
        LitDigits none = new LitDigits();
        Check.noArgument("load of none", none, none::load);
        Check.due("load of one", typed("1").load(), 1);
        Check.due("load of six", typed("123456").load(), 6);
        LitDigits seven = typed("1234567");
        Check.due("the seventh is an error", seven.firstError(), 6);
        Check.noArgument("load of seven", seven, seven::load);
    }

    private static void eighteenSigns() {
        Check.sentence("\"0\" to \"9\", \"A\" to \"F\", \"-\" and \"_\" (for nothing)");
        for (int code = 33; code <= 126; code++) {
            LitDigits x = new LitDigits();
            x.append(code);
            int sign = SIGNS.indexOf(code);
            Check.due("firstError of code " + code, x.firstError(), sign < 0 ? 0 : 1);
            if (sign < 0) {
                Check.noArgument("load of code " + code, x, x::load);
            } else {
                x.load();
                Check.due("sign of code " + code, x.slotOf(0, 0), sign);
            }
        }
    }

    private static void perhapsDots() {
        Check.sentence("each perhaps with \".\" behind it (a dot)");
        String[] texts = {".", "1.", "1..", "_.", "1._..", "123456.", "123456..", "8.8.8.8.8.8.", "1.2.3.4.5.67"};
        int[] errors = {0, 2, 2, 2, 4, 7, 7, 12, 11};
        for (int i = 0; i < texts.length; i++) {
            Check.due("firstError of " + texts[i], typed(texts[i]).firstError(), errors[i]);
        }
        LitDigits x = Check.showing("1._.2-3.4.");
        Check.dueSlots("dots", x, 1, 1, 1, 0, 0, 1, 1);
        Check.dueSlots("signs", x, 0, 1, 17, 2, 16, 3, 4);
    }

    private static void fromTheFirstSlotOn() {
        Check.sentence("They are for the slots from 0 on; the other slots show nothing.");
        LitDigits x = Check.showing("8.8.8.8.8.8.");
        Check.type(x, "12");
        x.load();
        Check.dueSlots("signs", x, 0, 1, 2, 17, 17, 17, 17);
        Check.dueSlots("dots", x, 1, 0, 0, 0, 0, 0, 0);
        Check.type(x, "ABCDEF");
        x.load();
        Check.dueSlots("all slots", x, 0, 10, 11, 12, 13, 14, 15);
        Check.type(x, "_");
        x.load();
        Check.dueSlots("no slot", x, 0, 17, 17, 17, 17, 17, 17);
    }

    private static void leftToRight() {
        Check.sentence("The buffer is read from left to right; a character is a syntax error if no display as a text "
            + "begins with the characters before it and this character.");
        String[] texts = {"?1", "1?..", "..", "1234567..", "12345678", "1.2.3.4.5.6?", "1.a.", "!!!!!!!!!!!!", "_____?"};
        int[] errors = {0, 1, 0, 6, 6, 11, 2, 0, 5};
        for (int i = 0; i < texts.length; i++) {
            LitDigits x = typed(texts[i]);
            Check.due("firstError of " + texts[i], x.firstError(), errors[i]);
            Check.noArgument("load of " + texts[i], x, x::load);
        }
    }

    private static void append() {
        LitDigits x = new LitDigits();
        Check.sentence("Returns the new length of the buffer.");
        Check.due("the least code", x.append(33), 1);
        Check.due("the greatest code", x.append(126), 2);
        dueText("both", x, "!~");
        Check.sentence("Throws `IllegalArgumentException` if code is not 33 to 126");
        Check.noArgumentBeside("append", x, 33, 126, x::append);
        Check.noArgument("a code that a char would take for 48", x, () -> x.append(65536 + 48));
        Check.sentence("Throws `IllegalStateException` if the buffer has 12 characters");
        LitDigits full = typed("012345678901");
        Check.noState("append", full, () -> full.append(33));
        LitDigits nearly = typed("01234567890");
        Check.due("append to 11", nearly.append(126), 12);
        Check.sentence("If several exceptions apply, the one that is named first in the throws clause is thrown.");
        Check.noArgument("append", full, () -> full.append(32));
        Check.noArgument("append", full, () -> full.append(127));
    }

    private static void clearBuffer() {
        Check.sentence("Returns the length that it had.");
        LitDigits x = new LitDigits();
        Check.due("empty", x.clearBuffer(), 0);
        x.append(126);
        Check.due("one", x.clearBuffer(), 1);
        Check.due("empty again", x.clearBuffer(), 0);
        Check.type(x, "012345678901");
        Check.due("full", x.clearBuffer(), 12);
        dueText("nothing is left", x, "");
    }

    private static void firstError() {
        Check.sentence("the length of the buffer if there is none");
        Check.due("empty", new LitDigits().firstError(), 0);
        Check.due("one", typed("A").firstError(), 1);
        Check.due("full", typed("8.8.8.8.8.8.").firstError(), 12);
        Check.sentence("Returns the index of the first character that is a syntax error");
        Check.due("the first", typed("a").firstError(), 0);
        Check.due("the last of twelve", typed("8.8.8.8.8.8?").firstError(), 11);
        LitDigits x = typed("1x2");
        x.firstError();
        dueText("it stays as it is", x, "1x2");
    }

    private static void load() {
        Check.sentence("Returns how many signs it has.");
        String text = "1.2.3.4.5.6.";
        for (int signs = 1; signs <= 6; signs++) {
            Check.due("with dots", typed(text.substring(0, 2 * signs)).load(), signs);
            Check.due("without the last dot", typed(text.substring(0, 2 * signs - 1)).load(), signs);
        }
        Check.due("signs for nothing too", typed("______").load(), 6);
        Check.sentence("and clears the buffer");
        LitDigits x = typed("8.8.8.8.8.8.");
        x.load();
        Check.due("clearBuffer", x.clearBuffer(), 0);
        Check.sentence("Throws `IllegalArgumentException` if the buffer does not tell a display as a text");
        Check.noArgument("empty", x, x::load);
        Check.type(x, "8.8.8.8.8.8?");
        Check.noArgument("an error at the end", x, x::load);
        dueText("the buffer stays", x, "8.8.8.8.8.8?");
    }

    private static void loadLeavesTheRest() {
        Check.sentence("(glows and the round go on)");
        LitDigits x = Check.showing("8.8.");
        x.burn(0, 1);
        x.cut(2);
        x.time(0, 3);
        x.pass(22);
        int glow = x.segmentOf(0, 0, 0);
        Check.type(x, "_");
        x.load();
        Check.due("ticks of the round", x.count(2), 3);
        Check.due("rounds", x.count(4), 1);
        Check.due("glow", x.segmentOf(0, 0, 0), glow);
        Check.due("it was lit: 840 / 6", glow, 140);
        Check.due("burnt segments", x.slotOf(0, 3), 2);
        Check.due("cut lines", x.count(7), 4);
        Check.due("time", x.slotOf(0, 2), 3);
    }

    private static void loadIsUndoable() {
        Check.sentence("Undoable.");
        LitDigits x = Check.showing("8.-");
        x.pass(5);
        long before = x.digest();
        Check.type(x, "F.");
        Check.saves("load", x, 1, x::load);
        x.undo();
        Check.due("undo brings the display back, but no buffer", x.digest(), before);
        Check.type(x, "8.-");
        Check.saves("load of what is shown", x, 1, x::load);
        x.undo();
        Check.type(x, "G");
        Check.saves("load that throws", x, 0, () -> {
            Check.noArgument("load of G", x, x::load);
            return 0;
        });
    }

    private static void textsAreNotUndoable() {
        Check.sentence("Each method that is marked \"undoable\" and does not throw an exception saves the state");
        LitDigits x = Check.showing("8");
        Check.saves("append", x, 0, () -> x.append(48));
        Check.saves("firstError", x, 0, x::firstError);
        Check.saves("clearBuffer", x, 0, x::clearBuffer);
        Check.saves("write", x, 0, x::write);
    }

    private static void writeInPlace() {
        Check.sentence("in place of what was there");
        LitDigits x = new LitDigits();
        Check.due("into an empty buffer", x.write(), 6);
        dueText("into an empty buffer", x, "______");
        Check.type(x, "xxxxxxxxxxxx");
        Check.due("into a full buffer", x.write(), 6);
        dueText("into a full buffer", x, "______");
        Check.due("and once more", x.write(), 6);
        dueText("and once more", x, "______");
    }

    private static void writeLength() {
        Check.sentence("Returns the length of the buffer then.");
        Check.due("the least", Check.showing("012345").write(), 6);
        LitDigits x = Check.showing("8.A.C.F.-._.");
        Check.due("the most", x.write(), 12);
        dueText("the most", x, "8.A.C.F.-._.");
        Check.due("a dot in the last slot alone", Check.showing("_____1.").write(), 7);
    }

    private static void writeUnread() {
        Check.sentence("for each slot the sign as which it is read, \"?\" if there is none");
        for (int sign = 0; sign < 18; sign++) {
            LitDigits x = new LitDigits();
            x.show(5, sign);
            x.write();
            dueText("sign " + sign, x, "_____" + SIGNS.charAt(sign));
        }
        LitDigits x = Check.showing("888888.");
        x.burn(0, 0);
        x.burn(1, 6);
        x.burn(5, 0);
        x.write();
        dueText("none, another, and none with a dot", x, "?0888?.");
    }

    private static void writeDots() {
        Check.sentence("and \".\" if its dot is seen");
        LitDigits x = Check.showing("8.8.");
        x.burn(0, 7);
        x.write();
        dueText("a burnt dot is not seen", x, "88.____");
        x.cut(7);
        x.write();
        dueText("nor a cut one", x, "88____");
        LitDigits y = Check.showing("_.");
        y.set(0, 0);
        y.set(2, 16);
        Check.times(y, 1, 1, 0, 0, 0, 0);
        y.write();
        dueText("a ghost of a dot is seen", y, "_._.____");
    }

    private static void writeWhatIsSeen() {
        Check.sentence("Writes what is read as a text into the buffer");
        LitDigits x = Check.showing("8");
        x.set(3, 31);
        x.write();
        dueText("just bright enough", x, "8_____");
        x.set(3, 32);
        x.write();
        dueText("just too dark", x, "______");
        x.set(3, 1);
        Check.times(x, 0, 0, 0, 0, 0, 0);
        Check.due("without ticks in a round", x.write(), 6);
        dueText("without ticks in a round", x, "______");
    }

    public static void main(String[] args) {
        twelveCharacters();
        oneToSixSigns();
        eighteenSigns();
        perhapsDots();
        fromTheFirstSlotOn();
        leftToRight();
        append();
        clearBuffer();
        firstError();
        load();
        loadLeavesTheRest();
        loadIsUndoable();
        textsAreNotUndoable();
        writeInPlace();
        writeLength();
        writeUnread();
        writeDots();
        writeWhatIsSeen();
        Check.end();
    }
}
