import java.util.ArrayDeque;
import java.util.ArrayList;
import java.util.Arrays;
import java.util.List;

/** The document once more, as plainly as it can be told, to hold LitDigits against in long runs. */
final class PlainDigits {
    private static final int[] MASKS = {63, 6, 91, 79, 102, 109, 125, 7, 127, 111, 119, 124, 57, 94, 121, 113, 64, 0};
    private static final String TEXT = "0123456789ABCDEF-_";

    private static final class Display implements Cloneable {
        int[] sign = {17, 17, 17, 17, 17, 17};
        boolean[] dot = new boolean[6];
        boolean[][] burnt = new boolean[6][8];
        boolean[] cut = new boolean[8];
        int[] time = {2, 2, 2, 2, 2, 2};
        int[] setting = {1, 840, 4, 10};
        int[][] glow = new int[6][8];
        int gone;
        int inRound;
        int rounds;

        Display copy() {
            Display d = new Display();
            d.sign = sign.clone();
            d.dot = dot.clone();
            d.cut = cut.clone();
            d.time = time.clone();
            d.setting = setting.clone();
            for (int i = 0; i < 6; i++) {
                d.burnt[i] = burnt[i].clone();
                d.glow[i] = glow[i].clone();
            }
            d.gone = gone;
            d.inRound = inRound;
            d.rounds = rounds;
            return d;
        }

        boolean works(int slot, int segment) {
            boolean shown = segment == 7 ? dot[slot] : (MASKS[sign[slot]] & 1 << segment) != 0;
            return shown && !burnt[slot][segment] && !cut[segment];
        }

        int working(int slot) {
            int n = 0;
            for (int g = 0; g < 8; g++) {
                n += works(slot, g) ? 1 : 0;
            }
            return n;
        }

        int light(int slot) {
            return working(slot) == 0 ? 0 : setting[1] / working(slot);
        }

        /** A round as a list: -1 for a dark tick, otherwise the slot that is lit. */
        List<Integer> round() {
            List<Integer> ticks = new ArrayList<>();
            for (int slot = 0; slot < 6; slot++) {
                for (int i = 0; time[slot] > 0 && i < setting[0]; i++) {
                    ticks.add(-1);
                }
                for (int i = 0; i < time[slot]; i++) {
                    ticks.add(slot);
                }
            }
            return ticks;
        }

        int lightOf(int slot, int segment, List<Integer> round, int tick) {
            if (round.get(tick) != slot) {
                return 0;
            }
            int own = works(slot, segment) ? light(slot) : 0;
            boolean first = round.indexOf(slot) == tick;
            if (setting[0] == 0 && first && !burnt[slot][segment]) {
                int ahead = round.get((tick + round.size() - 1) % round.size());
                if (ahead != slot && works(ahead, segment)) {
                    return Math.max(own, light(ahead) / 4);
                }
            }
            return own;
        }

        void tick(List<Integer> round, int tick) {
            for (int slot = 0; slot < 6; slot++) {
                for (int g = 0; g < 8; g++) {
                    int left = Math.max(0, glow[slot][g] - glow[slot][g] / setting[2] - 1);
                    glow[slot][g] = Math.max(left, lightOf(slot, g, round, tick));
                }
            }
        }

        /** Per slot and segment: the mean, the greatest and the least glow of the eighth round. */
        int[][][] seen() {
            int[][][] result = new int[6][8][3];
            List<Integer> round = round();
            if (round.isEmpty()) {
                return result;
            }
            Display d = copy();
            for (int i = 0; i < 7 * round.size(); i++) {
                d.tick(round, i % round.size());
            }
            int[][] sum = new int[6][8];
            for (int[][] slot : result) {
                for (int[] segment : slot) {
                    segment[2] = Integer.MAX_VALUE;
                }
            }
            for (int i = 0; i < round.size(); i++) {
                d.tick(round, i);
                for (int slot = 0; slot < 6; slot++) {
                    for (int g = 0; g < 8; g++) {
                        sum[slot][g] += d.glow[slot][g];
                        result[slot][g][1] = Math.max(result[slot][g][1], d.glow[slot][g]);
                        result[slot][g][2] = Math.min(result[slot][g][2], d.glow[slot][g]);
                        result[slot][g][0] = sum[slot][g] / round.size();
                    }
                }
            }
            return result;
        }

        int mean(int slot, int[][][] seen) {
            int sum = 0;
            for (int g = 0; g < 8; g++) {
                sum += works(slot, g) ? seen[slot][g][0] : 0;
            }
            return working(slot) == 0 ? 0 : sum / working(slot);
        }

        int seenMask(int slot, int[][][] seen) {
            int mask = 0;
            for (int g = 0; g < 8; g++) {
                mask += seen[slot][g][0] >= setting[3] ? 1 << g : 0;
            }
            return mask;
        }

        int read(int slot, int[][][] seen) {
            for (int s = 0; s < 18; s++) {
                if (MASKS[s] == seenMask(slot, seen) % 128) {
                    return s;
                }
            }
            return -1;
        }

        /** The times by balance(), or null if no slot has a segment that works. */
        int[] balanced(int ticks) {
            int[] t = new int[6];
            for (int slot = 0; slot < 6; slot++) {
                t[slot] = working(slot) > 0 ? 1 : 0;
            }
            if (Arrays.stream(t).sum() == 0) {
                return null;
            }
            while (Arrays.stream(t).sum() < ticks) {
                int best = -1;
                for (int slot = 5; slot >= 0; slot--) {
                    // 1 * 2 * .. * 8 goes by every count of segments, so these compare as the fractions do
                    if (working(slot) > 0 && t[slot] < 20 && (best < 0
                            || t[slot] * (40320 / working(slot)) <= t[best] * (40320 / working(best)))) {
                        best = slot;
                    }
                }
                if (best < 0) {
                    break;
                }
                t[best]++;
            }
            return t;
        }
    }

    private Display d = new Display();
    private String buffer = "";
    private final Display[] kept = new Display[2];
    private final ArrayDeque<Display> saved = new ArrayDeque<>();
    private int[][][] seenNow;

    private static void index(boolean holds) {
        if (!holds) {
            throw new IndexOutOfBoundsException();
        }
    }

    private static void argument(boolean holds) {
        if (!holds) {
            throw new IllegalArgumentException();
        }
    }

    private static void state(boolean holds) {
        if (!holds) {
            throw new IllegalStateException();
        }
    }

    private static boolean in(int value, int least, int most) {
        return value >= least && value <= most;
    }

    private void save() {
        saved.addLast(d.copy());
        if (saved.size() > 6) {
            saved.removeFirst();
        }
        seenNow = null;
    }

    private int[][][] seen() {
        if (seenNow == null) {
            seenNow = d.seen();
        }
        return seenNow;
    }

    int show(int slot, int sign) {
        index(in(slot, 0, 5));
        argument(in(sign, 0, 17));
        save();
        int before = d.sign[slot];
        d.sign[slot] = sign;
        return before;
    }

    int dot(int slot) {
        index(in(slot, 0, 5));
        save();
        d.dot[slot] = !d.dot[slot];
        return d.dot[slot] ? 1 : 0;
    }

    int burn(int slot, int segment) {
        index(in(slot, 0, 5) && in(segment, 0, 7));
        save();
        d.burnt[slot][segment] = !d.burnt[slot][segment];
        return d.burnt[slot][segment] ? 1 : 0;
    }

    int cut(int segment) {
        index(in(segment, 0, 7));
        save();
        d.cut[segment] = !d.cut[segment];
        return d.cut[segment] ? 1 : 0;
    }

    int time(int slot, int time) {
        index(in(slot, 0, 5));
        argument(in(time, 0, 20));
        save();
        int before = d.time[slot];
        d.time[slot] = time;
        d.inRound = 0;
        return before;
    }

    int balance(int ticks) {
        argument(in(ticks, 6, 60));
        int[] t = d.balanced(ticks);
        state(t != null);
        save();
        d.time = t;
        d.inRound = 0;
        return Arrays.stream(t).sum();
    }

    int set(int setting, int value) {
        index(in(setting, 0, 3));
        int[][] ranges = {{0, 3}, {1, 2000}, {1, 16}, {1, 500}};
        argument(in(value, ranges[setting][0], ranges[setting][1]));
        save();
        int before = d.setting[setting];
        d.setting[setting] = value;
        d.inRound = 0;
        return before;
    }

    int pass(int ticks) {
        argument(in(ticks, 1, 200));
        List<Integer> round = d.round();
        state(!round.isEmpty() && d.gone + ticks <= 99999);
        save();
        int ended = 0;
        for (int i = 0; i < ticks; i++) {
            d.tick(round, d.inRound);
            d.gone++;
            d.inRound++;
            if (d.inRound == round.size()) {
                d.inRound = 0;
                ended++;
            }
        }
        d.rounds += ended;
        return ended;
    }

    int append(int code) {
        argument(in(code, 33, 126));
        state(buffer.length() < 12);
        buffer += (char) code;
        return buffer.length();
    }

    int clearBuffer() {
        int length = buffer.length();
        buffer = "";
        return length;
    }

    int firstError() {
        for (int i = 1; i <= buffer.length(); i++) {
            if (!buffer.substring(0, i).matches("([0-9A-F_-]\\.?){1,6}")) {
                return i - 1;
            }
        }
        return buffer.length();
    }

    int load() {
        argument(buffer.length() > 0 && firstError() == buffer.length());
        save();
        int signs = buffer.replace(".", "").length();
        Arrays.fill(d.sign, 17);
        Arrays.fill(d.dot, false);
        for (int i = 0, slot = 0; i < buffer.length(); i++) {
            if (buffer.charAt(i) == '.') {
                d.dot[slot - 1] = true;
            } else {
                d.sign[slot++] = TEXT.indexOf(buffer.charAt(i));
            }
        }
        buffer = "";
        return signs;
    }

    int write() {
        buffer = "";
        for (int slot = 0; slot < 6; slot++) {
            int read = d.read(slot, seen());
            buffer += (read < 0 ? '?' : TEXT.charAt(read)) + (d.seenMask(slot, seen()) >= 128 ? "." : "");
        }
        return buffer.length();
    }

    int keep(int slot) {
        argument(in(slot, 0, 1));
        kept[slot] = d.copy();
        return d.gone;
    }

    int goBack(int slot) {
        argument(in(slot, 0, 1));
        state(kept[slot] != null);
        save();
        d = kept[slot].copy();
        return d.gone;
    }

    int undo() {
        state(!saved.isEmpty());
        d = saved.removeLast();
        seenNow = null;
        return saved.size();
    }

    int slotOf(int slot, int what) {
        index(in(slot, 0, 5));
        argument(in(what, 0, 9));
        int burnt = 0;
        int works = 0;
        for (int g = 0; g < 8; g++) {
            burnt += d.burnt[slot][g] ? 1 << g : 0;
            works += d.works(slot, g) ? 1 << g : 0;
        }
        int mask = d.seenMask(slot, seen());
        int read = d.read(slot, seen());
        int right = read == d.sign[slot] && mask >= 128 == d.dot[slot] ? 1 : 0;
        int[] all = {d.sign[slot], d.dot[slot] ? 1 : 0, d.time[slot], burnt, works, d.light(slot), mask, read, right,
            d.mean(slot, seen())};
        return all[what];
    }

    int segmentOf(int slot, int segment, int what) {
        index(in(slot, 0, 5) && in(segment, 0, 7));
        argument(in(what, 0, 3));
        return what == 0 ? d.glow[slot][segment] : seen()[slot][segment][what - 1];
    }

    int count(int what) {
        argument(in(what, 0, 12));
        List<Integer> round = d.round();
        int light = 0;
        for (int slot : round) {
            light += slot < 0 ? 0 : d.light(slot) * d.working(slot);
        }
        int cut = 0;
        for (int g = 0; g < 8; g++) {
            cut += d.cut[g] ? 1 << g : 0;
        }
        int working = 0;
        int right = 0;
        List<Integer> means = new ArrayList<>();
        int flicker = 0;
        for (int slot = 0; slot < 6; slot++) {
            working += d.working(slot) > 0 ? 1 : 0;
            right += d.read(slot, seen()) == d.sign[slot] ? 1 : 0;
            if (d.working(slot) > 0) {
                means.add(d.mean(slot, seen()));
            }
            for (int g = 0; g < 8; g++) {
                if (d.works(slot, g)) {
                    flicker = Math.max(flicker, seen()[slot][g][1] - seen()[slot][g][2]);
                }
            }
        }
        int uneven = 0;
        for (int a : means) {
            for (int b : means) {
                uneven = Math.max(uneven, a - b);
            }
        }
        int[] all = {d.gone, round.size(), d.inRound, round.isEmpty() ? -1 : round.get(d.inRound), d.rounds, light,
            light, cut, working, right, uneven, flicker, saved.size()};
        return all[what];
    }

    int setting(int setting) {
        index(in(setting, 0, 3));
        return d.setting[setting];
    }

    private List<Integer> alike(int slot) {
        List<Integer> signs = new ArrayList<>();
        for (int s = 0; s < 18; s++) {
            boolean same = true;
            for (int g = 0; g < 7; g++) {
                boolean fails = d.burnt[slot][g] || d.cut[g];
                boolean differs = ((MASKS[s] ^ MASKS[d.sign[slot]]) & 1 << g) != 0;
                same &= fails || !differs;
            }
            if (same) {
                signs.add(s);
            }
        }
        return signs;
    }

    int couldBe(int slot, int what) {
        index(in(slot, 0, 5));
        argument(in(what, 0, 1));
        return what == 0 ? alike(slot).size() : alike(slot).get(0);
    }

    int ifTimed(int slot, int time) {
        index(in(slot, 0, 5));
        argument(in(time, 0, 20));
        Display other = d.copy();
        other.time[slot] = time;
        return other.mean(slot, other.seen());
    }

    int ifBalanced(int ticks, int slot) {
        index(in(slot, 0, 5));
        argument(in(ticks, 6, 60));
        int[] t = d.balanced(ticks);
        return t == null ? -1 : t[slot];
    }

    int safest(int slot) {
        index(in(slot, 0, 5));
        int best = -1;
        int most = -1;
        for (int s = 0; s < 18; s++) {
            int good = 0;
            int bad = 0;
            for (int g = 0; g < 7; g++) {
                if ((MASKS[s] & 1 << g) != 0) {
                    boolean fails = d.burnt[slot][g] || d.cut[g];
                    good += fails ? 0 : 1;
                    bad += fails ? 1 : 0;
                }
            }
            if (bad < 2 && good > most) {
                best = s;
                most = good;
            }
        }
        return best;
    }

    double litShare() {
        List<Integer> round = d.round();
        return round.isEmpty() ? 0.0 : (double) round.stream().filter(t -> t >= 0).count() / round.size();
    }

    float meanBrightness() {
        float sum = 0;
        int slots = 0;
        for (int slot = 0; slot < 6; slot++) {
            if (d.working(slot) > 0) {
                sum += d.mean(slot, seen());
                slots++;
            }
        }
        return slots == 0 ? 0.0f : sum / slots;
    }

    long digest() {
        List<Long> v = new ArrayList<>();
        for (int i = 0; i < 13; i++) {
            v.add((long) count(i));
        }
        for (int i = 0; i < 4; i++) {
            v.add((long) setting(i));
        }
        for (int slot = 0; slot < 6; slot++) {
            for (int i = 0; i < 10; i++) {
                v.add((long) slotOf(slot, i));
            }
            for (int g = 0; g < 8; g++) {
                for (int i = 0; i < 4; i++) {
                    v.add((long) segmentOf(slot, g, i));
                }
            }
            v.add((long) couldBe(slot, 0));
            v.add((long) couldBe(slot, 1));
            v.add((long) ifBalanced(20, slot));
            v.add((long) safest(slot));
        }
        v.add((long) ifTimed(0, 5));
        v.add(Double.doubleToLongBits(litShare()));
        v.add((long) Float.floatToIntBits(meanBrightness()));
        v.add(kept[0] == null ? 0L : 1L);
        v.add(kept[1] == null ? 0L : 1L);
        v.add((long) buffer.length());
        for (char c : buffer.toCharArray()) {
            v.add((long) c);
        }
        long hash = 3347;
        for (long value : v) {
            hash = 31 * hash + value;
        }
        return hash;
    }
}
