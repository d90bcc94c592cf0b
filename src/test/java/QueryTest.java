/** Promises 17 to 21: wordOf, noiseOf, second, total, count. */
final class QueryTest {
    private static final Check CHECK = new Check("QueryTest");
    private static final Class<?> ARGUMENT = IllegalArgumentException.class;
    private static final Class<?> INDEX = IndexOutOfBoundsException.class;
    private static final int LOW = Integer.MIN_VALUE;
    private static final int HIGH = Integer.MAX_VALUE;

    public static void main(String[] args) {
        ducking();
        strengths();
        levels();
        margins();
        wordsOverWords();
        understanding();
        noisesThatMask();
        seconds();
        totals();
        silence();
        refusedNumbers();
        CHECK.end();
    }

    private static void ducking() {
        FoleyMixer x = Scene.played("w2+2@9;w5+1@9");
        CHECK.due("ducking", Told.seconds(x, 0, 9, 0), "0 0 6 6 4 6 4 2 0 0");
        x.set(1, 4);
        CHECK.due("a release that does not divide", Told.seconds(x, 2, 9, 0), "6 6 2 6 2 0 0 0");
        x.set(0, 0);
        CHECK.due("no ducking", Told.seconds(x, 0, 9, 0), "0 0 0 0 0 0 0 0 0 0");
        x.set(0, 20);
        x.set(1, 1);
        CHECK.due("the longest release", Told.seconds(x, 24, 27, 0), "1 0 0 0");
        CHECK.due("a word in the second 0", Told.seconds(Scene.played("w0+1@9"), 0, 4, 0), "6 4 2 0 0");
        CHECK.due("a word at the end", Told.seconds(Scene.played("w99+20@9"), 117, 119, 0), "6 6 4");
    }

    private static void strengths() {
        FoleyMixer x = Scene.played("w5+2@20;n4+5@5;N4+5@5;n4+5@7");
        CHECK.due("a soft noise", Told.noise(x, 0), "4 5 5 0 9 0 4");
        CHECK.due("a hard noise", Told.noise(x, 1), "4 5 5 1 25 0 0");
        CHECK.due("a louder soft noise", Told.noise(x, 2), "4 5 7 0 17 0 4");
        CHECK.due("the levels", Told.seconds(x, 3, 9, 3), "0 9 6 6 7 7 0");
        CHECK.due("the strongest", Told.seconds(x, 3, 9, 5), "-1 2 1 1 1 1 -1");
        CHECK.due("a strength of 1", Told.seconds(Scene.played("n5+2@1"), 4, 7, 5), "-1 0 0 -1");
        CHECK.due("ducked only behind its end", Told.noise(Scene.played("w5+2@20;n4+1@5"), 0), "4 1 5 0 5 0 0");
        CHECK.due("a noise ducked away", Told.seconds(Scene.played("w5+2@20;n5+3@6"), 4, 8, 5), "-1 -1 -1 0 -1");
    }

    private static void levels() {
        FoleyMixer x = Scene.played("w0+1@30;N0+1@10;N0+1@20;n0+1@6;n0+1@7");
        CHECK.due("each other one adds the spill", x.wordOf(0, 6) + " " + x.second(0, 3), "22 22");
        x.set(2, 5);
        CHECK.due("a greater spill", x.wordOf(0, 6) + " " + x.second(0, 3), "30 30");
        x.set(2, 0);
        CHECK.due("no spill", x.wordOf(0, 6) + " " + x.second(0, 3), "20 20");
        FoleyMixer none = Scene.played("w0+1@30;n0+1@6;n0+1@5");
        CHECK.due("strengths of 0", none.wordOf(0, 6) + " " + none.second(0, 3), "0 0");
        CHECK.due("one strength", Scene.played("w0+1@30;N0+1@6").second(0, 3), 6);
    }

    private static void margins() {
        CHECK.due("at the margin", Told.word(Scene.played("w5+3@12;N6+1@10"), 0), "5 3 12 3 -1 1 10");
        CHECK.due("under it", Told.word(Scene.played("w5+3@11;N6+1@10"), 0), "5 3 11 2 6 0 10");
        FoleyMixer x = Scene.played("w5+3@1;w9+1@2");
        CHECK.due("masked in the second 0", Scene.played("w0+2@9;N0+1@9").wordOf(0, 4), 0);
        CHECK.due("covered only behind its end", Told.word(Scene.played("w5+2@9;N7+1@9;N4+1@8"), 0), "5 2 9 2 -1 1 0");
        CHECK.due("masked with nothing around", Told.word(x, 0), "5 3 1 0 5 0 0");
        CHECK.due("heard with nothing around", Told.word(x, 1), "9 1 2 1 -1 1 0");
        x.set(3, 0);
        CHECK.due("no margin", Told.word(x, 0), "5 3 1 3 -1 1 0");
        x.set(3, 10);
        CHECK.due("the greatest margin", x.count(3), 4);
    }

    private static void wordsOverWords() {
        FoleyMixer x = Scene.played("w0+4@20;w2+4@20;w3+1@5;n3+1@9");
        CHECK.due("covered by two words and a noise", Told.word(x, 0), "0 4 20 2 2 0 22");
        CHECK.due("and the other", Told.word(x, 1), "2 4 20 2 2 0 22");
        CHECK.due("and the low one", Told.word(x, 2), "3 1 5 0 3 0 22");
        CHECK.due("a word is not its own cover", Scene.played("w0+4@20").wordOf(0, 6), 0);
        CHECK.due("words are not ducked", Scene.played("w0+1@20;w0+1@18").wordOf(0, 6), 18);
        CHECK.due("words are in no noise level", x.second(3, 3), 3);
    }

    private static void understanding() {
        FoleyMixer x = Scene.played("w5+4@12;N6+2@20;w20+1@30");
        CHECK.due("two masked", x.wordOf(0, 3) + " " + x.wordOf(0, 5) + " " + x.count(2), "2 0 2");
        x.set(4, 1);
        CHECK.due("one may be", x.wordOf(0, 5) + " " + x.count(2), "0 2");
        x.set(4, 2);
        CHECK.due("two may be", x.wordOf(0, 5) + " " + x.count(2), "1 3");
        CHECK.due("masked seconds", x.count(3), 2);
    }

    private static void noisesThatMask() {
        FoleyMixer x = Scene.played("w5+4@12;n3+10@1;N6+2@20;N7+2@20;w50+1@1");
        CHECK.due("no strength, but some word is masked", Told.noise(x, 0), "3 10 1 0 4 3 6");
        CHECK.due("the first masker", Told.noise(x, 1), "6 2 20 1 40 2 0");
        CHECK.due("the second masker", Told.noise(x, 2), "7 2 20 1 40 2 0");
        CHECK.due("masks most", x.count(6), 1);
        x.shift(false, 1, 1);
        CHECK.due("still the lowest number", x.count(6), 1);
        x.loud(false, 2, 21);
        CHECK.due("now the other", x.count(6), 2);
        CHECK.due("masked by words alone", Scene.played("w0+1@5;w0+1@5;n5+1@9").count(6), -1);
        CHECK.due("more seconds win", Scene.played("w0+5@9;N0+2@9;N2+3@9").count(6), 1);
        CHECK.due("one second is enough", Scene.played("n9+1@9;w0+4@9;N3+9@9").count(6), 1);
        CHECK.due("of as many the lowest", Scene.played("w0+4@9;N0+2@9;N2+2@30").count(6), 0);
        CHECK.due("a strength of 0 masks nothing", Scene.played("w0+4@1;n0+4@6").count(6), -1);
    }

    private static void seconds() {
        FoleyMixer x = Scene.played("w5+2@12;w6+2@10;N6+1@11;n6+3@3;n99+20@1");
        CHECK.due("words", Told.seconds(x, 4, 8, 1), "0 1 3 2 0");
        CHECK.due("noises", Told.seconds(x, 4, 9, 2), "0 0 3 2 2 0");
        CHECK.due("masked", Told.seconds(x, 4, 8, 4), "0 0 3 0 0");
        CHECK.due("the last second of all", Told.seconds(x, 118, 119, 2), "4 0");
        FoleyMixer full = new FoleyMixer();
        for (int i = 0; i < 10; i++) {
            full.noise(50, 1, 7, true);
            full.word(50, 1, 3 * i + 3);
        }
        full.noise(50, 1, 8, true);
        full.noise(50, 1, 8, true);
        CHECK.due("ten words", full.second(50, 1), 1023);
        CHECK.due("twelve noises", full.second(50, 2), 4095);
        CHECK.due("their level", full.second(50, 3), 19);
        CHECK.due("all masked", full.second(50, 4), 1023);
        CHECK.due("the lowest number of the strongest", full.second(50, 5), 10);
    }

    private static void totals() {
        CHECK.due("nothing", new FoleyMixer().total(0) + " " + new FoleyMixer().total(1), "0 0");
        FoleyMixer x = Scene.played("w0+20@30;w99+20@30;n0+20@6;N50+3@7");
        CHECK.due("without ducking", x.total(0) + " " + x.total(1), "1341 1341");
        for (int way : new int[] {-1, 2, LOW, HIGH}) {
            CHECK.refused("total " + way, Scene::small, ARGUMENT, y -> y.total(way));
        }
    }

    private static void silence() {
        FoleyMixer x = Scene.played("w5+2@9;n9+3@9");
        CHECK.due("last sound and silence", x.count(4) + " " + x.count(5), "11 7");
        x.noise(99, 20, 1, false);
        CHECK.due("at the end", x.count(4) + " " + x.count(5), "118 94");
        CHECK.due("in the second 0", Scene.played("n0+1@1").count(4) + " " + Scene.played("n0+1@1").count(5), "0 0");
        FoleyMixer full = Scene.full();
        CHECK.due("words and noises", full.count(0) + " " + full.count(1), "10 12");
        CHECK.due("saved and buffer", full.count(7) + " " + full.count(8), "6 80");
        for (int what : new int[] {-1, 14, LOW, HIGH}) {
            CHECK.refused("count " + what, Scene::small, ARGUMENT, y -> y.count(what));
        }
    }

    private static void refusedNumbers() {
        for (int number : new int[] {-1, 1, 10, LOW, HIGH}) {
            CHECK.refused("wordOf " + number, Scene::small, INDEX, y -> y.wordOf(number, 0));
            CHECK.refused("wordOf " + number + ", 7", Scene::small, INDEX, y -> y.wordOf(number, 7));
        }
        for (int number : new int[] {-1, 2, 12, LOW, HIGH}) {
            CHECK.refused("noiseOf " + number, Scene::small, INDEX, y -> y.noiseOf(number, 0));
            CHECK.refused("noiseOf " + number + ", -1", Scene::small, INDEX, y -> y.noiseOf(number, -1));
        }
        for (int second : new int[] {-1, 120, LOW, HIGH}) {
            CHECK.refused("second " + second, Scene::small, INDEX, y -> y.second(second, 0));
            CHECK.refused("second " + second + ", 6", Scene::small, INDEX, y -> y.second(second, 6));
        }
        for (int what : new int[] {-1, 7, LOW, HIGH}) {
            CHECK.refused("wordOf 0, " + what, Scene::small, ARGUMENT, y -> y.wordOf(0, what));
            CHECK.refused("noiseOf 1, " + what, Scene::small, ARGUMENT, y -> y.noiseOf(1, what));
        }
        for (int what : new int[] {-1, 6, LOW, HIGH}) {
            CHECK.refused("second 119, " + what, Scene::small, ARGUMENT, y -> y.second(119, what));
        }
        FoleyMixer full = Scene.full();
        CHECK.due("the last ones", full.wordOf(9, 2) + " " + full.noiseOf(11, 2), "19 16");
    }
}
