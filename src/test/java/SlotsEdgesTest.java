/** The edges that "Slots, signs" and promises 1 to 5 name, a test for each sentence. */
public final class SlotsEdgesTest {
    private static final int[] MASKS = {63, 6, 91, 79, 102, 109, 125, 7, 127, 111, 119, 124, 57, 94, 121, 113, 64, 0};

    private static void sixSlots() {
        Check.sentence("There are 6 slots, numbered from 0.");
        LitDigits x = new LitDigits();
        for (int slot = 0; slot < 6; slot++) {
            x.show(slot, slot + 1);
        }
        Check.dueSlots("each shows its own", x, 0, 1, 2, 3, 4, 5, 6);
        Check.noIndexBeside("slotOf", x, 0, 5, v -> x.slotOf(v, 0));
    }

    private static void firstSigns() {
        Check.sentence("A slot shows a sign, 0 to 17, at first 17, and a dot or none, at first none.");
        LitDigits x = new LitDigits();
        Check.dueSlots("sign", x, 0, 17, 17, 17, 17, 17, 17);
        Check.dueSlots("dot", x, 1, 0, 0, 0, 0, 0, 0);
        x.show(0, 0);
        x.show(5, 17);
        Check.dueSlots("the least and the greatest sign", x, 0, 0, 17, 17, 17, 17, 17);
    }

    private static void masks() {
        Check.sentence("Each sign is a set of the segments 0 to 6, told as a mask");
        LitDigits x = new LitDigits();
        for (int sign = 0; sign < 18; sign++) {
            x.show(sign % 6, sign);
            Check.due("mask of sign " + sign, x.slotOf(sign % 6, 4), MASKS[sign]);
        }
    }

    private static void nothing() {
        Check.sentence("0 for nothing (17)");
        LitDigits x = Check.showing("8");
        x.show(0, 17);
        Check.due("no segments", x.slotOf(0, 4), 0);
        Check.due("no slot with segments", x.count(8), 0);
    }

    private static void dotIsTheLastSegment() {
        Check.sentence("The dot is the segment 7.");
        LitDigits x = new LitDigits();
        x.dot(0);
        Check.due("a dot alone", x.slotOf(0, 4), 128);
        x.burn(0, 7);
        Check.due("burnt", x.slotOf(0, 4), 0);
        Check.due("no sign has it", Check.showing("8").slotOf(0, 4), 127);
    }

    private static void burntInOneSlot() {
        Check.sentence("A segment of a slot can be burnt");
        LitDigits x = Check.showing("888888");
        x.burn(0, 0);
        x.burn(5, 6);
        Check.dueSlots("burnt", x, 3, 1, 0, 0, 0, 0, 64);
        Check.dueSlots("works", x, 4, 126, 127, 127, 127, 127, 63);
    }

    private static void cutInAllSlots() {
        Check.sentence("the line of a segment, which all slots share, can be cut");
        LitDigits x = Check.showing("888888.");
        x.cut(0);
        x.cut(7);
        Check.dueSlots("works", x, 4, 126, 126, 126, 126, 126, 126);
        Check.dueSlots("burnt", x, 3, 0, 0, 0, 0, 0, 0);
    }

    private static void whatWorks() {
        Check.sentence("The segments of a slot that work are those of its sign, and its dot, that are not burnt there, "
            + "and whose lines are not cut.");
        LitDigits x = Check.showing("8.1.___.");
        Check.dueSlots("all and none", x, 4, 255, 134, 0, 0, 128, 0);
        x.burn(1, 0);
        Check.due("burnt beside its sign", x.slotOf(1, 4), 134);
        x.cut(3);
        Check.due("cut beside its sign", x.slotOf(1, 4), 134);
        x.burn(1, 1);
        x.cut(1);
        Check.due("burnt and cut", x.slotOf(1, 4), 132);
        x.cut(1);
        Check.due("still burnt", x.slotOf(1, 4), 132);
        x.cut(1);
        x.burn(1, 1);
        Check.due("still cut", x.slotOf(1, 4), 132);
        x.cut(1);
        Check.due("neither", x.slotOf(1, 4), 134);
    }

    private static void noneWorks() {
        Check.sentence("The segments of a slot that work are those of its sign, and its dot, that are not burnt there");
        LitDigits x = Check.showing("8.8.");
        for (int segment = 0; segment < 8; segment++) {
            x.burn(0, segment);
        }
        Check.due("all are burnt", x.slotOf(0, 3), 255);
        Check.dueSlots("none works", x, 4, 0, 255);
        for (int segment = 0; segment < 8; segment++) {
            x.cut(segment);
        }
        Check.due("all are cut", x.count(7), 255);
        Check.dueSlots("none works anywhere", x, 4, 0, 0);
    }

    private static void newObject() {
        Check.sentence("Creates six slots that show nothing, without glow, at the beginning of a round");
        LitDigits x = new LitDigits();
        Check.dueSlots("nothing works", x, 4, 0, 0, 0, 0, 0, 0);
        for (int slot = 0; slot < 6; slot++) {
            for (int segment = 0; segment < 8; segment++) {
                Check.due("glow", x.segmentOf(slot, segment, 0), 0);
            }
        }
        Check.due("ticks of the round of now", x.count(2), 0);
        Check.due("ticks", x.count(0), 0);
        Check.due("rounds", x.count(4), 0);
    }

    private static void newObjectIsEmpty() {
        Check.sentence("with empty slots for snapshots and an empty buffer");
        LitDigits x = new LitDigits();
        Check.noState("goBack 0", x, () -> x.goBack(0));
        Check.noState("goBack 1", x, () -> x.goBack(1));
        Check.noState("undo", x, x::undo);
        Check.due("firstError", x.firstError(), 0);
        Check.due("clearBuffer", x.clearBuffer(), 0);
    }

    private static void objectsAreApart() {
        Check.sentence("Creates six slots");
        LitDigits x = Check.showing("8.8.8.8.8.8.");
        long before = new LitDigits().digest();
        x.set(1, 9);
        x.time(0, 9);
        x.cut(0);
        x.burn(0, 0);
        x.keep(0);
        x.append(48);
        x.pass(200);
        Check.due("another object", new LitDigits().digest(), before);
    }

    private static void show() {
        Check.sentence("Changes the sign of a slot.");
        LitDigits x = Check.showing("______");
        x.show(0, 16);
        x.show(5, 0);
        Check.dueSlots("the first and the last", x, 0, 16, 17, 17, 17, 17, 0);
        Check.sentence("Returns the sign before.");
        Check.due("the first slot", x.show(0, 17), 16);
        Check.due("the last slot", x.show(5, 5), 0);
        Check.due("the same sign", x.show(5, 5), 5);
    }

    private static void showRefuses() {
        LitDigits x = Check.showing("123456");
        Check.sentence("Throws `IndexOutOfBoundsException` if there is no such slot");
        Check.noIndexBeside("show", x, 0, 5, v -> x.show(v, 0));
        Check.sentence("Throws `IllegalArgumentException` if sign is out of range");
        Check.noArgumentBeside("show", x, 0, 17, v -> x.show(0, v));
        Check.sentence("If several exceptions apply, the one that is named first in the throws clause is thrown.");
        Check.noIndex("show", x, () -> x.show(6, 18));
        Check.noIndex("show", x, () -> x.show(-1, -1));
    }

    private static void dot() {
        Check.sentence("from none to one, or the other way round");
        LitDigits x = new LitDigits();
        x.dot(0);
        x.dot(5);
        Check.dueSlots("dots", x, 1, 1, 0, 0, 0, 0, 1);
        Check.sentence("Returns 1 if it has one then, otherwise 0.");
        Check.due("off", x.dot(0), 0);
        Check.due("on", x.dot(0), 1);
        x.burn(5, 7);
        Check.due("a burnt one off", x.dot(5), 0);
        Check.due("a burnt one is had too", x.dot(5), 1);
        Check.due("and told", x.slotOf(5, 1), 1);
        Check.sentence("Throws `IndexOutOfBoundsException` if there is no such slot");
        Check.noIndexBeside("dot", x, 0, 5, x::dot);
    }

    private static void burn() {
        Check.sentence("Burns a segment of a slot, or mends it, if it is burnt.");
        LitDigits x = Check.showing("8.____8.");
        Check.due("the first segment", x.burn(0, 0), 1);
        Check.due("the last segment", x.burn(5, 7), 1);
        Check.due("a segment that is not shown", x.burn(1, 3), 1);
        Check.dueSlots("burnt", x, 3, 1, 8, 0, 0, 0, 128);
        Check.sentence("Returns 1 if it is burnt then, otherwise 0.");
        Check.due("mended", x.burn(5, 7), 0);
        Check.due("burnt again", x.burn(5, 7), 1);
        Check.due("a cut one is not burnt", x.cut(6) + x.slotOf(0, 3), 2);
        x.show(0, 17);
        Check.due("it stays burnt without a sign", x.slotOf(0, 3), 1);
    }

    private static void burnRefuses() {
        Check.sentence("Throws `IndexOutOfBoundsException` if there is no such slot or segment");
        LitDigits x = Check.showing("888888");
        Check.noIndexBeside("burn slot", x, 0, 5, v -> x.burn(v, 0));
        Check.noIndexBeside("burn segment", x, 0, 7, v -> x.burn(0, v));
        Check.noIndex("burn both", x, () -> x.burn(6, 8));
    }

    private static void cut() {
        Check.sentence("Cuts the line of a segment, or mends it, if it is cut.");
        LitDigits x = Check.showing("8.");
        Check.due("the first", x.cut(0), 1);
        Check.due("the last", x.cut(7), 1);
        Check.due("cut lines", x.count(7), 129);
        Check.sentence("Returns 1 if it is cut then, otherwise 0.");
        Check.due("mended", x.cut(0), 0);
        Check.due("cut lines", x.count(7), 128);
        Check.due("cut again", x.cut(0), 1);
        Check.sentence("Throws `IndexOutOfBoundsException` if there is no such segment");
        Check.noIndexBeside("cut", x, 0, 7, x::cut);
    }

    private static void undoable() {
        Check.sentence("Undoable.");
        LitDigits x = Check.showing("8.8");
        x.pass(5);
        Check.undoable("show", x, () -> x.show(0, 1));
        Check.undoable("show of the same", x, () -> x.show(0, 8));
        Check.undoable("dot on", x, () -> x.dot(1));
        Check.undoable("dot off", x, () -> x.dot(0));
        Check.undoable("burn", x, () -> x.burn(0, 7));
        Check.undoable("cut", x, () -> x.cut(7));
        x.burn(0, 7);
        x.cut(7);
        Check.undoable("burn that mends", x, () -> x.burn(0, 7));
        Check.undoable("cut that mends", x, () -> x.cut(7));
    }

    /** Of time, balance and set alone it is said that the round begins anew. */
    private static void theRoundGoesOn() {
        Check.sentence("Changes the sign of a slot.");
        LitDigits x = Check.showing("8");
        x.pass(3);
        x.show(0, 1);
        x.dot(0);
        x.burn(0, 0);
        x.cut(0);
        Check.due("ticks of the round", x.count(2), 3);
        Check.due("glow of a segment that works no more", x.segmentOf(0, 0, 0), 120);
    }

    public static void main(String[] args) {
        sixSlots();
        firstSigns();
        masks();
        nothing();
        dotIsTheLastSegment();
        burntInOneSlot();
        cutInAllSlots();
        whatWorks();
        noneWorks();
        newObject();
        newObjectIsEmpty();
        objectsAreApart();
        show();
        showRefuses();
        dot();
        burn();
        burnRefuses();
        cut();
        undoable();
        theRoundGoesOn();
        Check.end();
    }
}
