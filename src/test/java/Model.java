import java.util.ArrayDeque;
import java.util.ArrayList;
import java.util.Deque;
import java.util.List;
import java.util.regex.Matcher;
import java.util.regex.Pattern;

/** The document word by word, slow and plain: each number is found anew from the cues. */
final class Model {
    private static final int[] LEAST = {0, 1, 0, 0, 0};
    private static final int[] MOST = {20, 20, 5, 10, 10};
    private static final Pattern SCRIPT;

    static {
        String cue = "[wnN](0|[1-9][0-9]?)\\+([1-9]|1[0-9]|20)@([1-9]|[12][0-9]|30)";
        SCRIPT = Pattern.compile(cue + "(;" + cue + ")*");
    }

    /** A word or a noise. */
    record Cue(int start, int length, int loud, boolean hard) {
        boolean sounds(int second) {
            return second >= start && second <= start + length - 1;
        }
    }

    /** What undo brings back. */
    record State(List<Cue> words, List<Cue> noises, List<Integer> settings) {
        State copy() {
            return new State(new ArrayList<>(words), new ArrayList<>(noises), new ArrayList<>(settings));
        }
    }

    private State now = new State(new ArrayList<>(), new ArrayList<>(), new ArrayList<>(List.of(6, 2, 1, 2, 0)));
    private final Deque<State> saved = new ArrayDeque<>();
    private final State[] slots = new State[2];
    private String buffer = "";

    private static void index(boolean right) {
        if (!right) {
            throw new IndexOutOfBoundsException();
        }
    }

    private static void argument(boolean right) {
        if (!right) {
            throw new IllegalArgumentException();
        }
    }

    private static void state(boolean right) {
        if (!right) {
            throw new IllegalStateException();
        }
    }

    private static boolean in(int value, int least, int most) {
        return value >= least && value <= most;
    }

    private void save() {
        saved.addLast(now.copy());
        if (saved.size() > 6) {
            saved.removeFirst();
        }
    }

    private List<Cue> cues(boolean isWord) {
        return isWord ? now.words : now.noises;
    }

    // ---- what the document's terms tell, for any state

    private static int duck(State s, int second) {
        if (second < 0) {
            return 0;
        }
        for (Cue word : s.words) {
            if (word.sounds(second)) {
                return s.settings.get(0);
            }
        }
        return Math.max(0, duck(s, second - 1) - s.settings.get(1));
    }

    private static int strength(State s, Cue noise, int second) {
        return noise.hard ? noise.loud : Math.max(0, noise.loud - duck(s, second));
    }

    private static int level(State s, List<Integer> strengths) {
        List<Integer> some = new ArrayList<>(strengths);
        some.removeIf(x -> x <= 0);
        some.sort(null);
        return some.isEmpty() ? 0 : some.get(some.size() - 1) + s.settings.get(2) * (some.size() - 1);
    }

    private static List<Integer> strengths(State s, int second) {
        List<Integer> strengths = new ArrayList<>();
        for (Cue noise : s.noises) {
            if (noise.sounds(second)) {
                strengths.add(strength(s, noise, second));
            }
        }
        return strengths;
    }

    private static int cover(State s, int word, int second) {
        List<Integer> all = strengths(s, second);
        for (int other = 0; other < s.words.size(); other++) {
            if (other != word && s.words.get(other).sounds(second)) {
                all.add(s.words.get(other).loud);
            }
        }
        return level(s, all);
    }

    private static List<Integer> maskedOf(State s, int word) {
        List<Integer> masked = new ArrayList<>();
        Cue cue = s.words.get(word);
        for (int second = cue.start; second < cue.start + cue.length; second++) {
            if (cue.loud < cover(s, word, second) + s.settings.get(3)) {
                masked.add(second);
            }
        }
        return masked;
    }

    private static int masked(State s) {
        int sum = 0;
        for (int word = 0; word < s.words.size(); word++) {
            sum += maskedOf(s, word).size();
        }
        return sum;
    }

    private static int understood(State s) {
        int mask = 0;
        for (int word = 0; word < s.words.size(); word++) {
            mask |= maskedOf(s, word).size() <= s.settings.get(4) ? 1 << word : 0;
        }
        return mask;
    }

    private static int maskedMask(State s, int second) {
        int mask = 0;
        for (int word = 0; word < s.words.size(); word++) {
            mask |= maskedOf(s, word).contains(second) ? 1 << word : 0;
        }
        return mask;
    }

    private static int sounding(List<Cue> cues, int second) {
        int mask = 0;
        for (int i = 0; i < cues.size(); i++) {
            mask |= cues.get(i).sounds(second) ? 1 << i : 0;
        }
        return mask;
    }

    private static int strongest(State s, int second) {
        int best = -1;
        for (int i = s.noises.size() - 1; i >= 0; i--) {
            Cue noise = s.noises.get(i);
            int strength = noise.sounds(second) ? strength(s, noise, second) : 0;
            if (strength > 0 && (best < 0 || strength >= strength(s, s.noises.get(best), second))) {
                best = i;
            }
        }
        return best;
    }

    private static boolean silent(State s, int second) {
        return sounding(s.words, second) == 0 && sounding(s.noises, second) == 0;
    }

    // ---- the calls, in the order of the face

    int word(int start, int length, int loud) {
        argument(in(start, 0, 99) && in(length, 1, 20) && in(loud, 1, 30));
        state(now.words.size() < 10);
        save();
        now.words.add(new Cue(start, length, loud, false));
        return now.words.size() - 1;
    }

    int noise(int start, int length, int loud, boolean hard) {
        argument(in(start, 0, 99) && in(length, 1, 20) && in(loud, 1, 30));
        state(now.noises.size() < 12);
        save();
        now.noises.add(new Cue(start, length, loud, hard));
        return now.noises.size() - 1;
    }

    int remove(boolean isWord, int number) {
        index(in(number, 0, cues(isWord).size() - 1));
        save();
        cues(isWord).remove(number);
        return cues(isWord).size();
    }

    int shift(boolean isWord, int number, int by) {
        index(in(number, 0, cues(isWord).size() - 1));
        argument(in(by, -99, 99));
        Cue c = cues(isWord).get(number);
        argument(in(c.start + by, 0, 99));
        save();
        cues(isWord).set(number, new Cue(c.start + by, c.length, c.loud, c.hard));
        return c.start + by;
    }

    int loud(boolean isWord, int number, int loud) {
        index(in(number, 0, cues(isWord).size() - 1));
        argument(in(loud, 1, 30));
        Cue c = cues(isWord).get(number);
        save();
        cues(isWord).set(number, new Cue(c.start, c.length, loud, c.hard));
        return c.loud;
    }

    int set(int setting, int value) {
        index(in(setting, 0, 4));
        argument(in(value, LEAST[setting], MOST[setting]));
        save();
        return now.settings.set(setting, value);
    }

    int append(int code) {
        argument(in(code, 33, 126));
        state(buffer.length() < 80);
        buffer += (char) code;
        return buffer.length();
    }

    int clearBuffer() {
        int length = buffer.length();
        buffer = "";
        return length;
    }

    int firstError() {
        for (int i = 0; i < buffer.length(); i++) {
            Matcher matcher = SCRIPT.matcher(buffer.substring(0, i + 1));
            if (!matcher.matches() && !matcher.hitEnd()) {
                return i;
            }
        }
        return buffer.length();
    }

    int read() {
        argument(SCRIPT.matcher(buffer).matches());
        save();
        int added = 0;
        for (String cue : buffer.split(";")) {
            boolean isWord = cue.charAt(0) == 'w';
            if (cues(isWord).size() == (isWord ? 10 : 12)) {
                break;
            }
            String[] n = cue.substring(1).split("[+@]");
            cues(isWord).add(new Cue(Integer.parseInt(n[0]), Integer.parseInt(n[1]), Integer.parseInt(n[2]),
                cue.charAt(0) == 'N'));
            added++;
        }
        buffer = "";
        return added;
    }

    int write() {
        List<String> texts = new ArrayList<>();
        for (Cue c : now.words) {
            texts.add("w" + c.start + "+" + c.length + "@" + c.loud);
        }
        for (Cue c : now.noises) {
            texts.add((c.hard ? "N" : "n") + c.start + "+" + c.length + "@" + c.loud);
        }
        int count = texts.size();
        while (String.join(";", texts.subList(0, count)).length() > 80) {
            count--;
        }
        buffer = String.join(";", texts.subList(0, count));
        return count;
    }

    int charAt(int index) {
        argument(index >= 0);
        return index < buffer.length() ? buffer.charAt(index) : -1;
    }

    int undo() {
        state(!saved.isEmpty());
        now = saved.removeLast();
        return saved.size();
    }

    int keep(int slot) {
        argument(in(slot, 0, 1));
        slots[slot] = now.copy();
        return now.words.size();
    }

    int goBack(int slot) {
        argument(in(slot, 0, 1));
        state(slots[slot] != null);
        save();
        now = slots[slot].copy();
        return now.words.size();
    }

    int wordOf(int word, int what) {
        index(in(word, 0, now.words.size() - 1));
        argument(in(what, 0, 6));
        Cue c = now.words.get(word);
        List<Integer> masked = maskedOf(now, word);
        int most = 0;
        for (int second = c.start; second < c.start + c.length; second++) {
            most = Math.max(most, cover(now, word, second));
        }
        int[] all = {c.start, c.length, c.loud, c.length - masked.size(), masked.isEmpty() ? -1 : masked.get(0),
            masked.size() <= now.settings.get(4) ? 1 : 0, most};
        return all[what];
    }

    int noiseOf(int noise, int what) {
        index(in(noise, 0, now.noises.size() - 1));
        argument(in(what, 0, 6));
        Cue c = now.noises.get(noise);
        int[] all = {c.start, c.length, c.loud, c.hard ? 1 : 0, 0, 0, 0};
        for (int second = c.start; second < c.start + c.length; second++) {
            int strength = strength(now, c, second);
            all[4] += strength;
            all[5] += maskedMask(now, second) != 0 ? 1 : 0;
            all[6] += strength < c.loud ? 1 : 0;
        }
        return all[what];
    }

    int second(int second, int what) {
        index(in(second, 0, 119));
        argument(in(what, 0, 5));
        return switch (what) {
            case 0 -> duck(now, second);
            case 1 -> sounding(now.words, second);
            case 2 -> sounding(now.noises, second);
            case 3 -> level(now, strengths(now, second));
            case 4 -> maskedMask(now, second);
            default -> strongest(now, second);
        };
    }

    int total(int way) {
        argument(in(way, 0, 1));
        int sum = 0;
        for (Cue c : now.words) {
            sum += c.length * c.loud;
        }
        for (Cue c : now.noises) {
            sum += c.length * c.loud;
        }
        return sum;
    }

    int count(int what) {
        argument(in(what, 0, 13));
        int last = -1;
        for (int second = 0; second < 120; second++) {
            last = silent(now, second) ? last : second;
        }
        int silence = 0;
        for (int second = 0; second < last; second++) {
            silence += silent(now, second) ? 1 : 0;
        }
        return switch (what) {
            case 0 -> now.words.size();
            case 1 -> now.noises.size();
            case 2 -> understood(now);
            case 3 -> masked(now);
            case 4 -> last;
            case 5 -> silence;
            case 6 -> greatestMasker();
            case 7 -> saved.size();
            case 8 -> buffer.length();
            default -> now.settings.get(what - 9);
        };
    }

    private int greatestMasker() {
        int[] seconds = new int[13];
        for (int second = 0; second < 120; second++) {
            int strongest = strongest(now, second);
            if (strongest >= 0 && maskedMask(now, second) != 0) {
                seconds[strongest]++;
            }
        }
        int best = 12;
        for (int noise = 11; noise >= 0; noise--) {
            best = seconds[noise] > 0 && seconds[noise] >= seconds[best] ? noise : best;
        }
        return best == 12 ? -1 : best;
    }

    int leastDucking() {
        int least = -1;
        for (int value = 20; value >= 0; value--) {
            State other = now.copy();
            other.settings.set(0, value);
            least = Integer.bitCount(understood(other)) == now.words.size() ? value : least;
        }
        return least;
    }

    int ifSet(int setting, int value, int what) {
        index(in(setting, 0, 4));
        argument(in(value, LEAST[setting], MOST[setting]) && in(what, 0, 1));
        State other = now.copy();
        other.settings.set(setting, value);
        return what == 0 ? understood(other) : masked(other);
    }

    int bestShift(int noise) {
        index(in(noise, 0, now.noises.size() - 1));
        Cue c = now.noises.get(noise);
        int best = 0;
        int fewest = masked(now);
        for (int by = -10; by <= 10; by++) {
            if (in(c.start + by, 0, 99)) {
                State other = now.copy();
                other.noises.set(noise, new Cue(c.start + by, c.length, c.loud, c.hard));
                int masked = masked(other);
                boolean nearer = Math.abs(by) < Math.abs(best) || by == -best;
                if (masked < fewest || masked == fewest && nearer) {
                    fewest = masked;
                    best = by;
                }
            }
        }
        return best + 10;
    }

    int loudestQuiet(int noise) {
        index(in(noise, 0, now.noises.size() - 1));
        Cue c = now.noises.get(noise);
        State without = now.copy();
        without.noises.remove(noise);
        int loudest = 0;
        for (int loud = 1; loud <= 30; loud++) {
            State other = now.copy();
            other.noises.set(noise, new Cue(c.start, c.length, loud, c.hard));
            loudest = masked(other) <= masked(without) ? loud : loudest;
        }
        return loudest;
    }

    double heard() {
        int lengths = 0;
        for (Cue word : now.words) {
            lengths += word.length;
        }
        return lengths == 0 ? 1.0 : (double) (lengths - masked(now)) / (double) lengths;
    }
}
