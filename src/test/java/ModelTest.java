import java.util.ArrayList;
import java.util.List;
import java.util.Random;

/** Random runs of 512 calls, each answered by the mixer as by the model. The seeds are fixed. */
final class ModelTest {
    private static final int RUNS = 300;
    private static final int CALLS = 512;

    private final Check check = new Check("ModelTest");
    private Random random;
    private int spread;
    private FoleyMixer mixer;
    private Model model;
    private final List<String> told = new ArrayList<>();
    private boolean same;

    public static void main(String[] args) {
        ModelTest test = new ModelTest();
        for (int seed = 1; seed <= RUNS; seed++) {
            test.run(seed);
        }
        test.check.end();
    }

    /** One answer. */
    interface Answer {
        Object get();
    }

    private static String text(Answer answer) {
        try {
            return String.valueOf(answer.get());
        } catch (RuntimeException e) {
            return "throws." + e.getClass().getSimpleName();
        }
    }

    private void run(int seed) {
        random = new Random(seed);
        spread = new int[] {8, 25, 60, 99}[seed % 4];
        mixer = new FoleyMixer();
        model = new Model();
        told.clear();
        same = true;
        while (told.size() < CALLS && same) {
            if (random.nextInt(100) < 40) {
                change();
            } else if (random.nextInt(100) < 6) {
                type();
            } else {
                ask();
            }
        }
        check.due("run " + seed, same, true);
    }

    private void both(String call, Answer mine, Answer due) {
        if (told.size() >= CALLS || !same) {
            return;
        }
        told.add(call);
        String got = text(mine);
        String want = text(due);
        if (!got.equals(want)) {
            same = false;
            System.out.println("calls: " + told);
            check.due(call, got, want);
        }
    }

    /** Mostly in the range, now and then beside it, seldom far from it. */
    private int near(int least, int most) {
        int chance = random.nextInt(60);
        if (chance == 0) {
            return random.nextBoolean() ? least - 1 : most + 1;
        }
        if (chance == 1) {
            return random.nextInt(4) == 0 ? random.nextInt() : random.nextBoolean() ? least : most;
        }
        return least + random.nextInt(most - least + 1);
    }

    private int start() {
        return random.nextInt(30) == 0 ? near(0, 99) : near(0, spread);
    }

    private int number(boolean isWord) {
        int size = model.count(isWord ? 0 : 1);
        return size == 0 ? near(0, 1) : near(0, size - 1);
    }

    private void change() {
        boolean b = random.nextBoolean();
        int a = number(b);
        switch (random.nextInt(24)) {
            case 0, 1, 2, 3 -> addWord(start(), near(1, 20), near(1, 30));
            case 4, 5, 6, 7 -> addNoise(start(), near(1, 20), near(1, 30), b);
            case 8, 9 -> both("remove " + b + a, () -> mixer.remove(b, a), () -> model.remove(b, a));
            case 10, 11, 12 -> {
                int by = random.nextInt(3) == 0 ? near(-99, 99) : near(-10, 10);
                both("shift " + b + a + " " + by, () -> mixer.shift(b, a, by), () -> model.shift(b, a, by));
            }
            case 13, 14, 15 -> {
                int l = near(1, 30);
                both("loud " + b + a + " " + l, () -> mixer.loud(b, a, l), () -> model.loud(b, a, l));
            }
            case 16, 17, 18 -> {
                int s = near(0, 4);
                int v = value(s);
                both("set " + s + " " + v, () -> mixer.set(s, v), () -> model.set(s, v));
            }
            case 19, 20 -> both("undo", () -> mixer.undo(), () -> model.undo());
            case 21 -> {
                int slot = near(0, 1);
                both("keep " + slot, () -> mixer.keep(slot), () -> model.keep(slot));
            }
            case 22 -> {
                int slot = near(0, 1);
                both("goBack " + slot, () -> mixer.goBack(slot), () -> model.goBack(slot));
            }
            default -> both("write", () -> mixer.write(), () -> model.write());
        }
    }

    private int value(int setting) {
        int[] most = {20, 20, 5, 10, 10};
        return setting < 0 || setting > 4 ? near(0, 20) : near(setting == 1 ? 1 : 0, most[setting]);
    }

    private void addWord(int start, int length, int loud) {
        both("word " + start + " " + length + " " + loud, () -> mixer.word(start, length, loud),
            () -> model.word(start, length, loud));
    }

    private void addNoise(int start, int length, int loud, boolean hard) {
        both("noise " + start + " " + length + " " + loud + " " + hard, () -> mixer.noise(start, length, loud, hard),
            () -> model.noise(start, length, loud, hard));
    }

    private void type() {
        if (random.nextInt(4) != 0) {
            both("clearBuffer", () -> mixer.clearBuffer(), () -> model.clearBuffer());
        }
        StringBuilder text = new StringBuilder();
        for (int cues = 1 + random.nextInt(6); cues > 0; cues--) {
            text.append("wnN".charAt(random.nextInt(3))).append(random.nextInt(spread + 1)).append('+');
            text.append(1 + random.nextInt(20)).append('@').append(1 + random.nextInt(30));
            text.append(cues > 1 ? ";" : "");
        }
        if (random.nextInt(3) == 0) {
            String signs = "wnN0123456789+@;0123;+@x ";
            text.setCharAt(random.nextInt(text.length()), signs.charAt(random.nextInt(signs.length())));
        }
        for (int i = 0; i < text.length(); i++) {
            int code = text.charAt(i);
            both("append " + code, () -> mixer.append(code), () -> model.append(code));
        }
        both("firstError", () -> mixer.firstError(), () -> model.firstError());
        both("read", () -> mixer.read(), () -> model.read());
        both("firstError", () -> mixer.firstError(), () -> model.firstError());
    }

    private void ask() {
        int w = number(true);
        int n = number(false);
        int six = near(0, 6);
        switch (random.nextInt(20)) {
            case 0, 1, 2 -> both("wordOf " + w + " " + six, () -> mixer.wordOf(w, six), () -> model.wordOf(w, six));
            case 3, 4, 5 -> both("noiseOf " + n + " " + six, () -> mixer.noiseOf(n, six), () -> model.noiseOf(n, six));
            case 6, 7, 8 -> {
                int s = random.nextInt(4) == 0 ? near(0, 119) : near(0, Math.min(119, spread + 25));
                int what = near(0, 5);
                both("second " + s + " " + what, () -> mixer.second(s, what), () -> model.second(s, what));
            }
            case 9 -> {
                int way = near(0, 1);
                both("total " + way, () -> mixer.total(way), () -> model.total(way));
            }
            case 10, 11, 12 -> {
                int what = near(0, 13);
                both("count " + what, () -> mixer.count(what), () -> model.count(what));
            }
            case 13 -> both("leastDucking", () -> mixer.leastDucking(), () -> model.leastDucking());
            case 14 -> {
                int s = near(0, 4);
                int v = value(s);
                int what = near(0, 1);
                both("ifSet " + s + " " + v + " " + what, () -> mixer.ifSet(s, v, what),
                    () -> model.ifSet(s, v, what));
            }
            case 15, 16 -> both("bestShift " + n, () -> mixer.bestShift(n), () -> model.bestShift(n));
            case 17, 18 -> both("loudestQuiet " + n, () -> mixer.loudestQuiet(n), () -> model.loudestQuiet(n));
            default -> {
                both("heard", () -> mixer.heard(), () -> model.heard());
                int i = near(0, 79);
                both("charAt " + i, () -> mixer.charAt(i), () -> model.charAt(i));
            }
        }
    }
}
