/** Promises 1 to 5: a new object, show, dot, burn, cut. */
public final class SignsTest {
    private static final int[] MASKS = {63, 6, 91, 79, 102, 109, 125, 7, 127, 111, 119, 124, 57, 94, 121, 113, 64, 0};

    private static void newObject() {
        LitDigits x = new LitDigits();
        Check.due("NONE", LitDigits.NONE, -1);
        for (int slot = 0; slot < 6; slot++) {
            int[] due = {17, 0, 2, 0, 0, 0, 0, 17, 1, 0};
            for (int what = 0; what < 10; what++) {
                Check.due("new: slotOf " + slot + " " + what, x.slotOf(slot, what), due[what]);
            }
            for (int segment = 0; segment < 8; segment++) {
                for (int what = 0; what < 4; what++) {
                    Check.due("new: segmentOf", x.segmentOf(slot, segment, what), 0);
                }
            }
        }
        int[] counts = {0, 18, 0, -1, 0, 0, 0, 0, 0, 6, 0, 0, 0};
        for (int what = 0; what < 13; what++) {
            Check.due("new: count " + what, x.count(what), counts[what]);
        }
        int[] settings = {1, 840, 4, 10};
        for (int setting = 0; setting < 4; setting++) {
            Check.due("new: setting " + setting, x.setting(setting), settings[setting]);
        }
        Check.due("new: clearBuffer", x.clearBuffer(), 0);
        Check.noState("new: undo", x, x::undo);
        Check.noState("new: goBack 0", x, () -> x.goBack(0));
        Check.noState("new: goBack 1", x, () -> x.goBack(1));
        Check.due("new: all digests are alike", x.digest(), new LitDigits().digest());
    }

    private static void show() {
        for (int sign = 0; sign < 18; sign++) {
            LitDigits x = new LitDigits();
            x.show(5, 3);
            long before = x.digest();
            Check.due("show answers the sign before", x.show(5, sign), 3);
            Check.due("show: sign", x.slotOf(5, 0), sign);
            Check.due("show: segments that work", x.slotOf(5, 4), MASKS[sign]);
            Check.due("show: another slot", x.slotOf(4, 0), 17);
            Check.undone("show", x, before, 1);
            Check.due("show of the sign before is undoable too", x.show(5, 3), 3);
            Check.undone("show of the same", x, before, 1);
        }
        LitDigits x = Check.showing("0123");
        Check.noIndex("show -1", x, () -> x.show(-1, 0));
        Check.noIndex("show 6", x, () -> x.show(6, 0));
        Check.noIndex("show: the slot goes ahead of the sign", x, () -> x.show(6, 18));
        Check.noArgument("show sign -1", x, () -> x.show(0, -1));
        Check.noArgument("show sign 18", x, () -> x.show(5, 18));
        Check.noIndex("show least", x, () -> x.show(Integer.MIN_VALUE, 0));
        Check.noArgument("show most", x, () -> x.show(0, Integer.MAX_VALUE));
    }

    private static void showLetsTheRoundGoOn() {
        LitDigits x = Check.showing("8");
        x.pass(3);
        int glow = x.segmentOf(0, 0, 0);
        x.show(0, 1);
        x.dot(0);
        x.burn(0, 0);
        x.cut(1);
        Check.due("signs leave the round", x.count(2), 3);
        Check.due("signs leave the glow", x.segmentOf(0, 0, 0), glow);
        Check.due("the glow was there", glow, 120);
    }

    private static void dot() {
        LitDigits x = Check.showing("1");
        long before = x.digest();
        Check.due("dot on", x.dot(0), 1);
        Check.due("dot: property", x.slotOf(0, 1), 1);
        Check.due("dot works", x.slotOf(0, 4), 134);
        Check.due("dot shares the power", x.slotOf(0, 5), 280);
        Check.due("dot of another slot", x.slotOf(1, 1), 0);
        Check.undone("dot", x, before, 1);
        x.dot(5);
        Check.due("dot of the last slot", x.slotOf(5, 4), 128);
        Check.due("dot off", x.dot(5), 0);
        Check.due("dot is off", x.slotOf(5, 1), 0);
        Check.noIndex("dot -1", x, () -> x.dot(-1));
        Check.noIndex("dot 6", x, () -> x.dot(6));
    }

    private static void burn() {
        LitDigits x = Check.showing("8.8.");
        long before = x.digest();
        Check.due("burn", x.burn(0, 0), 1);
        Check.due("burnt segments", x.slotOf(0, 3), 1);
        Check.due("what works", x.slotOf(0, 4), 254);
        Check.due("its light", x.slotOf(0, 5), 120);
        Check.due("the other slot", x.slotOf(1, 4), 255);
        Check.undone("burn", x, before, 1);
        x.burn(1, 7);
        Check.due("a burnt dot", x.slotOf(1, 4), 127);
        Check.due("a burnt dot is still had", x.slotOf(1, 1), 1);
        Check.due("mend", x.burn(1, 7), 0);
        Check.due("mended", x.slotOf(1, 4), 255);
        x.burn(5, 3);
        Check.due("burnt where nothing is shown", x.slotOf(5, 3), 8);
        Check.noIndex("burn slot -1", x, () -> x.burn(-1, 0));
        Check.noIndex("burn slot 6", x, () -> x.burn(6, 0));
        Check.noIndex("burn segment -1", x, () -> x.burn(0, -1));
        Check.noIndex("burn segment 8", x, () -> x.burn(0, 8));
    }

    private static void cut() {
        LitDigits x = Check.showing("8.1");
        long before = x.digest();
        Check.due("cut", x.cut(1), 1);
        Check.due("cut lines", x.count(7), 2);
        Check.due("cut in slot 0", x.slotOf(0, 4), 253);
        Check.due("cut in slot 1", x.slotOf(1, 4), 4);
        Check.due("cut is not burnt", x.slotOf(0, 3), 0);
        Check.undone("cut", x, before, 1);
        Check.due("cut the dots", x.cut(7), 1);
        Check.due("no dots work", x.slotOf(0, 4), 127);
        Check.due("mend the line", x.cut(7), 0);
        Check.due("no line is cut", x.count(7), 0);
        Check.noIndex("cut -1", x, () -> x.cut(-1));
        Check.noIndex("cut 8", x, () -> x.cut(8));
    }

    public static void main(String[] args) {
        newObject();
        show();
        showLetsTheRoundGoOn();
        dot();
        burn();
        cut();
        Check.end();
    }
}
