/** Each sentence of promises 17 to 21 that names a boundary, in the document's order. */
final class QueryBoundaryTest {
    private static final Check CHECK = new Check("QueryBoundaryTest");
    private static final Class<?> ARGUMENT = IllegalArgumentException.class;
    private static final Class<?> INDEX = IndexOutOfBoundsException.class;

    public static void main(String[] args) {
        wordStartLengthLoudness();
        wordHeardSeconds();
        wordFirstMasked();
        wordUnderstood();
        wordGreatestCover();
        wordWithoutOne();
        wordOutOfRange();
        noiseStartLengthLoudnessHard();
        noiseStrengths();
        noiseMaskedSeconds();
        noiseDuckedSeconds();
        noiseWithoutOne();
        noiseOutOfRange();
        secondDucking();
        secondWordsAndNoises();
        secondLevel();
        secondMasked();
        secondStrongest();
        secondWithoutOne();
        secondOutOfRange();
        totals();
        totalOutOfRange();
        countCues();
        countUnderstood();
        countMasked();
        countLast();
        countSilence();
        countMasker();
        countSavedAndBuffer();
        countSettings();
        countOutOfRange();
        CHECK.end();
    }

    private static int[] wordOf(String script, int what) {
        FoleyMixer x = Scene.played(script);
        int[] row = new int[x.count(0)];
        for (int i = 0; i < row.length; i++) {
            row[i] = x.wordOf(i, what);
        }
        return row;
    }

    private static void due(String what, int[] got, int... want) {
        CHECK.due(what, java.util.Arrays.toString(got), java.util.Arrays.toString(want));
    }

    // ---- wordOf

    private static void wordStartLengthLoudness() {
        CHECK.sentence("Promise 17: 0 its start, 1 its length, 2 its loudness");
        due("starts", wordOf("w0+1@1;w99+20@30", 0), 0, 99);
        due("lengths", wordOf("w0+1@1;w99+20@30", 1), 1, 20);
        due("loudnesses", wordOf("w0+1@1;w99+20@30", 2), 1, 30);
        FoleyMixer full = Scene.full();
        CHECK.due("word 0 and word 9", full.wordOf(0, 0) + " " + full.wordOf(9, 0), "0 90");
    }

    private static void wordHeardSeconds() {
        CHECK.sentence("Promise 17: 3 in how many of its seconds it is heard");
        due("in none", wordOf("w0+1@1;w20+20@1", 3), 0, 0);
        due("in all", wordOf("w0+1@2;w20+20@30;w99+20@2", 3), 1, 20, 20);
        due("in all but the first and the last", wordOf("w5+4@9;N4+2@9;N8+2@9", 3), 2);
        due("in one of them", wordOf("w5+4@9;N5+3@9", 3), 1);
    }

    private static void wordFirstMasked() {
        CHECK.sentence("Promise 17: 4 the first second in which it is masked (NONE if there is none)");
        due("none", wordOf("w0+1@2;w99+20@30", 4), -1, -1);
        due("its first one", wordOf("w0+1@1;w5+2@1", 4), 0, 5);
        due("its last one", wordOf("w5+4@9;N8+9@9", 4), 8);
        due("its first one of all", wordOf("w5+4@9;N0+20@9", 4), 5);
        due("118", wordOf("w99+20@9;N99+1@1;n99+18@1", 4), -1);
        FoleyMixer x = Scene.played("w99+20@9;w99+19@5");
        x.set(3, 5);
        CHECK.due("99, by another word", x.wordOf(0, 4), 99);
        FoleyMixer last = Scene.played("w99+20@9;N99+20@7");
        CHECK.due("none in 118", last.wordOf(0, 4), -1);
        CHECK.due("a second behind a heard one", wordOf("w97+20@9;N97+20@7;N99+20@7", 4)[0], 99);
    }

    private static void wordUnderstood() {
        CHECK.sentence("Promise 17: 5 1 if it is understood, otherwise 0");
        due("masked in none, in one, in all", wordOf("w0+1@2;w20+5@9;w40+5@1;N24+9@9", 5), 1, 0, 0);
        FoleyMixer x = Scene.played("w0+3@1;w20+20@1");
        x.set(4, 3);
        CHECK.due("as many as may be", x.wordOf(0, 5) + " " + x.wordOf(1, 5), "1 0");
        x.set(4, 2);
        CHECK.due("one too many", x.wordOf(0, 5), 0);
    }

    private static void wordGreatestCover() {
        CHECK.sentence("Promise 17: 6 the greatest cover in its seconds");
        due("nothing around", wordOf("w0+1@1;w99+20@30", 6), 0, 0);
        due("in its first second", wordOf("w5+3@9;N5+1@8;N6+2@7", 6), 8);
        due("in its last second", wordOf("w5+3@9;N7+1@8;N5+2@7", 6), 8);
        due("not one before nor one behind", wordOf("w5+3@9;N4+1@8;N8+1@7", 6), 0);
        FoleyMixer x = new FoleyMixer();
        for (int i = 0; i < 12; i++) {
            x.word(99, 20, 30);
            x.noise(99, 20, 30, true);
            if (x.count(0) == 10) {
                break;
            }
        }
        x.noise(99, 20, 30, true);
        x.noise(99, 20, 30, true);
        x.set(2, 5);
        CHECK.due("the greatest that there can be", x.wordOf(9, 6), 30 + 5 * 20);
    }

    private static void wordWithoutOne() {
        CHECK.sentence("Promise 17: Throws IndexOutOfBoundsException if there is no such word");
        for (int what = 0; what <= 6; what++) {
            int at = what;
            CHECK.range("word", 0, 9, Scene::full, INDEX, (x, word) -> x.wordOf(word, at));
        }
        CHECK.refused("of none", () -> Scene.played("n1+1@1"), INDEX, x -> x.wordOf(0, 0));
    }

    private static void wordOutOfRange() {
        CHECK.sentence("Promise 17: Throws IllegalArgumentException if what is not 0 to 6");
        CHECK.range("what", 0, 6, Scene::small, ARGUMENT, (x, what) -> x.wordOf(0, what));
    }

    // ---- noiseOf

    private static void noiseStartLengthLoudnessHard() {
        CHECK.sentence("Promise 18: 0 its start, 1 its length, 2 its loudness, 3 1 if it is hard, otherwise 0");
        FoleyMixer x = Scene.played("n0+1@1;N99+20@30");
        CHECK.due("the least", Told.noise(x, 0).substring(0, 7), "0 1 1 0");
        CHECK.due("the greatest", Told.noise(x, 1).substring(0, 10), "99 20 30 1");
        FoleyMixer full = Scene.full();
        CHECK.due("noise 0 and noise 11", full.noiseOf(0, 0) + " " + full.noiseOf(11, 0), "0 88");
    }

    private static void noiseStrengths() {
        CHECK.sentence("Promise 18: 4 the sum of its strengths in all seconds in which it sounds");
        CHECK.due("all of 0", Scene.played("w0+20@9;n0+20@6").noiseOf(0, 4), 0);
        CHECK.due("the greatest sum", Scene.played("w0+20@9;N0+20@30").noiseOf(0, 4), 600);
        CHECK.due("some of 0", Scene.played("w4+2@9;n2+6@4").noiseOf(0, 4), 4 + 4 + 0 + 0 + 0 + 2);
        CHECK.due("up to 118", Scene.played("w99+19@9;n99+20@7").noiseOf(0, 4), 19 + 3);
    }

    private static void noiseMaskedSeconds() {
        CHECK.sentence("Promise 18: 5 in how many of these some word is masked");
        CHECK.due("in none", Scene.played("w0+9@30;n0+9@9").noiseOf(0, 5), 0);
        CHECK.due("without words", Scene.played("n0+9@9").noiseOf(0, 5), 0);
        CHECK.due("in all", Scene.played("w0+20@9;N0+20@9").noiseOf(0, 5), 20);
        CHECK.due("in its first and in its last", Scene.played("w5+1@1;w9+1@1;n5+5@1").noiseOf(0, 5), 2);
        CHECK.due("one before and one behind", Scene.played("w4+1@1;w10+1@1;n5+5@1").noiseOf(0, 5), 0);
        CHECK.due("two words in one second", Scene.played("w5+1@5;w5+1@5;N5+1@1").noiseOf(0, 5), 1);
    }

    private static void noiseDuckedSeconds() {
        CHECK.sentence("Promise 18: 6 in how many of these its strength is less than its loudness");
        CHECK.due("in none", Scene.played("w0+1@9;n4+9@9").noiseOf(0, 6), 0);
        CHECK.due("in all", Scene.played("w0+20@9;n0+20@9").noiseOf(0, 6), 20);
        CHECK.due("in all of a strength of 0", Scene.played("w0+20@9;n0+20@1").noiseOf(0, 6), 20);
        CHECK.due("in none of a hard one", Scene.played("w0+20@9;N0+20@9").noiseOf(0, 6), 0);
        CHECK.due("in the release", Scene.played("w0+1@9;n1+9@9").noiseOf(0, 6), 2);
        FoleyMixer x = Scene.played("w0+20@9;n0+20@9");
        x.set(0, 0);
        CHECK.due("without ducking", x.noiseOf(0, 6), 0);
    }

    private static void noiseWithoutOne() {
        CHECK.sentence("Promise 18: Throws IndexOutOfBoundsException if there is no such noise");
        for (int what = 0; what <= 6; what++) {
            int at = what;
            CHECK.range("noise", 0, 11, Scene::full, INDEX, (x, noise) -> x.noiseOf(noise, at));
        }
        CHECK.refused("of none", () -> Scene.played("w1+1@1"), INDEX, x -> x.noiseOf(0, 0));
    }

    private static void noiseOutOfRange() {
        CHECK.sentence("Promise 18: Throws IllegalArgumentException if what is not 0 to 6");
        CHECK.range("what", 0, 6, Scene::small, ARGUMENT, (x, what) -> x.noiseOf(1, what));
    }

    // ---- second

    private static void secondDucking() {
        CHECK.sentence("Promise 19: 0 its ducking");
        FoleyMixer x = Scene.played("w0+1@9;w99+20@9");
        CHECK.due("the second 0 and the next", Told.seconds(x, 0, 1, 0), "6 4");
        CHECK.due("the second 119 and before", Told.seconds(x, 117, 119, 0), "6 6 4");
        x.set(1, 1);
        CHECK.due("not yet 0 and 0", Told.seconds(x, 4, 7, 0), "2 1 0 0");
    }

    private static void secondWordsAndNoises() {
        CHECK.sentence("Promise 19: 1 the words ..., 2 the noises that sound in it, as a bit mask");
        FoleyMixer x = new FoleyMixer();
        for (int i = 0; i < 12; i++) {
            if (i < 10) {
                x.word(i, 1, 9);
            }
            x.noise(i, 1, 9, false);
        }
        CHECK.due("each word alone", Told.seconds(x, 0, 10, 1), "1 2 4 8 16 32 64 128 256 512 0");
        CHECK.due("each noise alone", Told.seconds(x, 0, 12, 2), "1 2 4 8 16 32 64 128 256 512 1024 2048 0");
        CHECK.due("nothing in 119", x.second(119, 1) + " " + x.second(119, 2), "0 0");
        for (int i = 0; i < 12; i++) {
            if (i < 10) {
                x.shift(true, i, 99 - i);
            }
            x.shift(false, i, 99 - i);
        }
        CHECK.due("all", x.second(99, 1) + " " + x.second(99, 2), "1023 4095");
    }

    private static void secondLevel() {
        CHECK.sentence("Promise 19: 3 the level of the strengths of all noises that sound in it");
        FoleyMixer x = Scene.played("w5+1@30;n5+1@6;n5+2@5;N9+1@1;N9+1@1");
        CHECK.due("none, none above 0, one, two", Told.seconds(x, 4, 9, 3), "0 0 1 0 0 2");
    }

    private static void secondMasked() {
        CHECK.sentence("Promise 19: 4 the words that are masked in it, as a bit mask");
        FoleyMixer x = Scene.full();
        for (int i = 0; i < 10; i++) {
            x.shift(true, i, -10 * i);
        }
        CHECK.due("all that sound, and none behind", Told.seconds(x, 3, 6, 4), "1023 1023 0 0");
        CHECK.due("none of those that sound", Scene.played("w0+1@2").second(0, 4), 0);
        CHECK.due("one of two", Scene.played("w5+1@9;w5+1@12").second(5, 4), 1);
    }

    private static void secondStrongest() {
        CHECK.sentence("Promise 19: 5 the noise with the greatest strength in it (of several the one with the lowest "
            + "number; NONE if no noise has a strength greater than 0)");
        CHECK.due("no noise", Scene.played("w0+1@9").second(0, 5), -1);
        CHECK.due("strengths of 0", Scene.played("w0+1@9;n0+1@6;n0+1@1").second(0, 5), -1);
        CHECK.due("a strength of 1", Scene.played("w0+1@9;n0+1@6;n0+1@7").second(0, 5), 1);
        CHECK.due("of two the lowest number", Scene.played("n0+1@9;N0+1@9").second(0, 5), 0);
        CHECK.due("of three the greatest", Scene.played("n0+1@8;N0+1@9;n0+1@9").second(0, 5), 1);
        CHECK.due("a soft one that is ducked", Scene.played("w0+1@9;n0+1@14;N0+1@9").second(0, 5), 1);
        CHECK.due("a soft one that is ducked to the same", Scene.played("w0+1@9;n0+1@15;N0+1@9").second(0, 5), 0);
        CHECK.due("the last number", Scene.full().second(88, 5), 11);
        CHECK.due("the second 119", Scene.played("N99+20@9").second(119, 5), -1);
    }

    private static void secondWithoutOne() {
        CHECK.sentence("Promise 19: Throws IndexOutOfBoundsException if there is no such second");
        CHECK.range("second", 0, 119, FoleyMixer::new, INDEX, (x, second) -> x.second(second, 0));
    }

    private static void secondOutOfRange() {
        CHECK.sentence("Promise 19: Throws IllegalArgumentException if what is not 0 to 5");
        CHECK.range("what of 0", 0, 5, Scene::small, ARGUMENT, (x, what) -> x.second(0, what));
        CHECK.range("what of 119", 0, 5, Scene::small, ARGUMENT, (x, what) -> x.second(119, what));
    }

    // ---- total

    private static void totals() {
        CHECK.sentence("Promise 20: over all seconds in which they sound (without ducking).");
        CHECK.due("of nothing", new FoleyMixer().total(0) + " " + new FoleyMixer().total(1), "0 0");
        FoleyMixer words = Scene.played("w0+1@1;w99+20@30");
        CHECK.due("of words", words.total(0) + " " + words.total(1), "601 601");
        FoleyMixer noises = Scene.played("n0+1@1;N99+20@30");
        CHECK.due("of noises", noises.total(0) + " " + noises.total(1), "601 601");
        FoleyMixer ducked = Scene.played("w0+20@1;n0+20@6");
        CHECK.due("of a noise that is ducked to 0", ducked.total(0) + " " + ducked.total(1), "140 140");
        FoleyMixer full = new FoleyMixer();
        for (int i = 0; i < 12; i++) {
            full.noise(99, 20, 30, i % 2 == 0);
            if (i < 10) {
                full.word(99, 20, 30);
            }
        }
        CHECK.due("the greatest", full.total(0) + " " + full.total(1), "13200 13200");
    }

    private static void totalOutOfRange() {
        CHECK.sentence("Promise 20: Throws IllegalArgumentException if way is neither 0 nor 1");
        CHECK.range("way", 0, 1, FoleyMixer::new, ARGUMENT, FoleyMixer::total);
    }

    // ---- count

    private static void countCues() {
        CHECK.sentence("Promise 21: 0 the words, 1 the noises");
        CHECK.due("none", new FoleyMixer().count(0) + " " + new FoleyMixer().count(1), "0 0");
        CHECK.due("one word", Scene.played("w1+1@1").count(0) + " " + Scene.played("w1+1@1").count(1), "1 0");
        CHECK.due("one noise", Scene.played("n1+1@1").count(0) + " " + Scene.played("n1+1@1").count(1), "0 1");
        CHECK.due("all", Scene.full().count(0) + " " + Scene.full().count(1), "10 12");
    }

    private static void countUnderstood() {
        CHECK.sentence("Promise 21: 2 the words that are understood, as a bit mask");
        CHECK.due("without words", Scene.played("n1+1@1").count(2), 0);
        CHECK.due("none", Scene.played("w1+1@1;w5+1@1").count(2), 0);
        FoleyMixer x = new FoleyMixer();
        for (int i = 0; i < 10; i++) {
            x.word(i, 1, 2);
        }
        CHECK.due("all ten", x.count(2), 1023);
        x.loud(true, 9, 1);
        CHECK.due("all but the last", x.count(2), 511);
        x.remove(true, 0);
        CHECK.due("without the first", x.count(2), 255);
    }

    private static void countMasked() {
        CHECK.sentence("Promise 21: 3 the masked seconds of all words together");
        CHECK.due("without words", Scene.played("n1+1@1").count(3), 0);
        CHECK.due("none", Scene.played("w1+1@2").count(3), 0);
        CHECK.due("two words in the same seconds", Scene.played("w1+2@9;w1+2@9").count(3), 4);
        FoleyMixer x = new FoleyMixer();
        for (int i = 0; i < 10; i++) {
            x.word(99, 20, 1);
        }
        CHECK.due("all", x.count(3), 200);
    }

    private static void countLast() {
        CHECK.sentence("Promise 21: 4 the last second in which something sounds (NONE if nothing does)");
        CHECK.due("nothing", new FoleyMixer().count(4), -1);
        CHECK.due("a word in 0", Scene.played("w0+1@1").count(4), 0);
        CHECK.due("a noise in 0", Scene.played("n0+1@1").count(4), 0);
        CHECK.due("118 by a word", Scene.played("w99+20@1;n0+1@1").count(4), 118);
        CHECK.due("118 by a noise", Scene.played("n99+20@1;w0+1@1").count(4), 118);
        CHECK.due("a noise that is ducked to 0", Scene.played("w0+1@9;n0+2@1").count(4), 1);
    }

    private static void countSilence() {
        CHECK.sentence("Promise 21: 5 ... in which nothing sounds before this one (0 if nothing sounds at all)");
        CHECK.due("nothing", new FoleyMixer().count(5), 0);
        CHECK.due("none before it", Scene.played("w0+20@1;n20+1@1").count(5), 0);
        CHECK.due("in 0 alone", Scene.played("n0+1@1").count(5), 0);
        CHECK.due("all before it", Scene.played("n99+1@1").count(5), 99);
        CHECK.due("0 alone", Scene.played("w1+20@1").count(5), 1);
        CHECK.due("between", Scene.played("w0+1@1;n2+1@1;w99+20@1").count(5), 97);
        CHECK.due("a noise that is ducked to 0 sounds", Scene.played("w0+1@9;n1+1@1;w2+1@9").count(5), 0);
    }

    private static void countMasker() {
        CHECK.sentence("Promise 21: 6 the noise that masks most ... (of several the one with the lowest number; "
            + "NONE if there is no such second)");
        CHECK.due("no noise", Scene.played("w0+1@1").count(6), -1);
        CHECK.due("no word", Scene.played("N0+9@30").count(6), -1);
        CHECK.due("no masked second", Scene.played("w0+1@30;N0+1@1").count(6), -1);
        CHECK.due("no strength in it", Scene.played("w0+1@1;n0+1@6").count(6), -1);
        CHECK.due("a strength of 1 in it", Scene.played("w0+1@1;n0+1@7").count(6), 0);
        CHECK.due("not in it", Scene.played("w0+1@1;n1+1@9").count(6), -1);
        CHECK.due("one second, the last number", Scene.played("w0+1@1;n5+1@9;n0+1@8;N0+1@9").count(6), 2);
        CHECK.due("of as many the lowest number", Scene.played("w0+4@1;N2+2@9;N0+2@30").count(6), 0);
        CHECK.due("more of them, not louder", Scene.played("w0+5@1;N0+2@30;N2+3@1").count(6), 1);
        CHECK.due("of the same strength the lowest number", Scene.played("w0+5@1;N0+3@9;N0+5@9").count(6), 0);
        CHECK.due("118", Scene.played("w99+20@3;N99+1@1;N99+20@2").count(6), 1);
    }

    private static void countSavedAndBuffer() {
        CHECK.sentence("Promise 21: 7 the number of saved states, 8 the length of the buffer");
        CHECK.due("at first", new FoleyMixer().count(7) + " " + new FoleyMixer().count(8), "0 0");
        CHECK.due("the most", Scene.full().count(7) + " " + Scene.full().count(8), "6 80");
        CHECK.due("a script that was read", Scene.played("w1+1@1").count(7) + " " + Scene.played("w1+1@1").count(8),
            "1 0");
    }

    private static void countSettings() {
        CHECK.sentence("Promise 21: 9 to 13 the settings 0 to 4");
        FoleyMixer x = new FoleyMixer();
        int[] most = {20, 19, 5, 10, 9};
        for (int setting = 0; setting < 5; setting++) {
            x.set(setting, most[setting]);
        }
        CHECK.due("each of them", x.count(9) + " " + x.count(10) + " " + x.count(11) + " " + x.count(12) + " "
            + x.count(13), "20 19 5 10 9");
    }

    private static void countOutOfRange() {
        CHECK.sentence("Promise 21: Throws IllegalArgumentException if what is not 0 to 13");
        CHECK.range("what", 0, 13, FoleyMixer::new, ARGUMENT, FoleyMixer::count);
        CHECK.range("what of a full play", 0, 13, Scene::full, ARGUMENT, FoleyMixer::count);
    }
}
