/** Promises 1 to 7: a new object, word, noise, remove, shift, loud, set. */
final class CueTest {
    private static final Check CHECK = new Check("CueTest");
    private static final Class<?> ARGUMENT = IllegalArgumentException.class;
    private static final Class<?> STATE = IllegalStateException.class;
    private static final Class<?> INDEX = IndexOutOfBoundsException.class;
    private static final int LOW = Integer.MIN_VALUE;
    private static final int HIGH = Integer.MAX_VALUE;

    public static void main(String[] args) {
        newObject();
        words();
        noises();
        cueArguments();
        removing();
        shifting();
        loudness();
        settings();
        settingRanges();
        CHECK.end();
    }

    private static void newObject() {
        FoleyMixer x = new FoleyMixer();
        int[] due = {0, 0, 0, 0, -1, 0, -1, 0, 0, 6, 2, 1, 2, 0};
        for (int what = 0; what < due.length; what++) {
            CHECK.due("new: count(" + what + ")", x.count(what), due[what]);
        }
        for (int second = 0; second < 120; second += 7) {
            CHECK.due("new: ducking of " + second, x.second(second, 0), 0);
        }
        CHECK.due("new: goBack", Check.answer(x, y -> y.goBack(1)), "throws.IllegalStateException");
    }

    private static void words() {
        FoleyMixer x = new FoleyMixer();
        CHECK.due("least word", x.word(0, 1, 1), 0);
        CHECK.due("greatest word", x.word(99, 20, 30), 1);
        CHECK.due("start", x.wordOf(1, 0), 99);
        CHECK.due("length", x.wordOf(1, 1), 20);
        CHECK.due("loudness", x.wordOf(1, 2), 30);
        CHECK.due("saved", x.count(7), 2);
        CHECK.due("sounds first", x.second(99, 1), 2);
        CHECK.due("sounds last", x.second(118, 1), 2);
        CHECK.due("sounds no more", x.second(119, 1), 0);
        for (int i = 2; i < 10; i++) {
            CHECK.due("word " + i, x.word(i, 2, 3), i);
        }
        CHECK.due("eleventh word", Check.answer(x, y -> y.word(0, 1, 1)), "throws.IllegalStateException");
        x.undo();
        CHECK.due("undone", x.count(0), 9);
    }

    private static void noises() {
        FoleyMixer x = new FoleyMixer();
        CHECK.due("least noise", x.noise(0, 1, 1, false), 0);
        CHECK.due("greatest noise", x.noise(99, 20, 30, true), 1);
        int[][] due = {{0, 1, 1, 0}, {99, 20, 30, 1}};
        for (int noise = 0; noise < 2; noise++) {
            for (int what = 0; what < 4; what++) {
                CHECK.due("noiseOf(" + noise + ", " + what + ")", x.noiseOf(noise, what), due[noise][what]);
            }
        }
        CHECK.due("saved", x.count(7), 2);
        for (int i = 2; i < 12; i++) {
            CHECK.due("noise " + i, x.noise(i, 2, 3, false), i);
        }
        CHECK.due("thirteenth noise", Check.answer(x, y -> y.noise(0, 1, 1, true)), "throws.IllegalStateException");
        CHECK.due("a word has room", x.word(0, 1, 1), 0);
        x.undo();
        x.undo();
        CHECK.due("undone", x.count(1), 11);
    }

    private static void cueArguments() {
        int[][] wrong = {{-1, 1, 1}, {100, 1, 1}, {0, 0, 1}, {0, 21, 1}, {0, 1, 0}, {0, 1, 31},
            {LOW, 1, 1}, {HIGH, 1, 1}, {0, LOW, 1}, {0, HIGH, 1}, {0, 1, LOW}, {0, 1, HIGH}};
        for (int[] w : wrong) {
            String told = "(" + w[0] + ", " + w[1] + ", " + w[2] + ")";
            CHECK.refused("word" + told, Scene::small, ARGUMENT, x -> x.word(w[0], w[1], w[2]));
            CHECK.refused("noise" + told, Scene::small, ARGUMENT, x -> x.noise(w[0], w[1], w[2], true));
            CHECK.refused("full: word" + told, Scene::full, ARGUMENT, x -> x.word(w[0], w[1], w[2]));
            CHECK.refused("full: noise" + told, Scene::full, ARGUMENT, x -> x.noise(w[0], w[1], w[2], false));
        }
        CHECK.refused("full: word", Scene::full, STATE, x -> x.word(5, 5, 5));
        CHECK.refused("full: noise", Scene::full, STATE, x -> x.noise(5, 5, 5, true));
    }

    private static void removing() {
        FoleyMixer x = Scene.played("w1+2@3;w4+5@6;w7+8@9;n1+2@3;N4+5@6;n7+8@9");
        CHECK.due("remove a word", x.remove(true, 1), 2);
        CHECK.due("the later word comes down", x.wordOf(1, 0), 7);
        CHECK.due("the earlier word stays", x.wordOf(0, 0), 1);
        CHECK.due("remove a noise", x.remove(false, 0), 2);
        CHECK.due("the later noise comes down", x.noiseOf(0, 0) + " " + x.noiseOf(0, 3), "4 1");
        CHECK.due("the last noise comes down", x.noiseOf(1, 0) + " " + x.noiseOf(1, 3), "7 0");
        CHECK.due("no noise 2", Check.answer(x, y -> y.noiseOf(2, 0)), "throws.IndexOutOfBoundsException");
        CHECK.due("remove the last word", x.remove(true, 1), 1);
        CHECK.due("remove the only word", x.remove(true, 0), 0);
        CHECK.due("undo", x.undo() + " " + x.count(0), "4 1");
        FoleyMixer full = Scene.full();
        CHECK.due("remove of 10", full.remove(true, 0), 9);
        CHECK.due("remove of 12", full.remove(false, 11), 11);
        CHECK.due("remove of 11", full.remove(false, 0), 10);
        CHECK.due("room again", full.noise(1, 2, 3, true), 10);
        for (int number : new int[] {-1, 1, 2, 9, 12, LOW, HIGH}) {
            CHECK.refused("remove word " + number, Scene::small, INDEX, y -> y.remove(true, number));
        }
        for (int number : new int[] {-1, 2, 3, LOW, HIGH}) {
            CHECK.refused("remove noise " + number, Scene::small, INDEX, y -> y.remove(false, number));
        }
        CHECK.refused("remove from nothing", FoleyMixer::new, INDEX, y -> y.remove(false, 0));
    }

    private static void shifting() {
        FoleyMixer x = Scene.small();
        CHECK.due("to the end", x.shift(true, 0, 89), 99);
        CHECK.due("to the beginning", x.shift(true, 0, -99), 0);
        CHECK.due("by nothing", x.shift(true, 0, 0), 0);
        CHECK.due("saved", x.count(7), 6);
        CHECK.due("by 99", x.shift(true, 0, 99), 99);
        CHECK.due("a noise", x.shift(false, 1, -5), 85);
        CHECK.due("its start", x.noiseOf(1, 0), 85);
        CHECK.due("the other noise", x.noiseOf(0, 0), 8);
        CHECK.due("undo", x.undo() + " " + x.noiseOf(1, 0), "5 90");
        for (int by : new int[] {-100, 100, LOW, HIGH, -11, 90, -99, 99}) {
            CHECK.refused("shift word by " + by, Scene::small, ARGUMENT, y -> y.shift(true, 0, by));
        }
        CHECK.refused("shift noise by 10", Scene::small, ARGUMENT, y -> y.shift(false, 1, 10));
        CHECK.refused("shift no word", Scene::small, INDEX, y -> y.shift(true, 1, 0));
        CHECK.refused("shift no word by 100", Scene::small, INDEX, y -> y.shift(true, -1, 100));
        CHECK.refused("shift no noise by 100", Scene::small, INDEX, y -> y.shift(false, 2, 100));
    }

    private static void loudness() {
        FoleyMixer x = Scene.small();
        CHECK.due("a word", x.loud(true, 0, 30), 12);
        CHECK.due("again", x.loud(true, 0, 1), 30);
        CHECK.due("the same", x.loud(true, 0, 1), 1);
        CHECK.due("saved", x.count(7), 6);
        CHECK.due("a noise", x.loud(false, 1, 2), 30);
        CHECK.due("its loudness", x.noiseOf(1, 2), 2);
        CHECK.due("the other noise", x.noiseOf(0, 2), 16);
        CHECK.due("undo", x.undo() + " " + x.noiseOf(1, 2), "5 30");
        for (int loud : new int[] {0, 31, -1, LOW, HIGH}) {
            CHECK.refused("loud " + loud, Scene::small, ARGUMENT, y -> y.loud(false, 1, loud));
            CHECK.refused("loud of no noise " + loud, Scene::small, INDEX, y -> y.loud(false, 2, loud));
            CHECK.refused("loud of no word " + loud, Scene::small, INDEX, y -> y.loud(true, -1, loud));
        }
        CHECK.refused("loud of no word", Scene::small, INDEX, y -> y.loud(true, 1, 5));
    }

    private static void settings() {
        FoleyMixer x = new FoleyMixer();
        int[] first = {6, 2, 1, 2, 0};
        for (int setting = 0; setting < 5; setting++) {
            CHECK.due("set " + setting, x.set(setting, 3), first[setting]);
            CHECK.due("is set", x.count(9 + setting), 3);
        }
        CHECK.due("the same", x.set(2, 3), 3);
        CHECK.due("saved", x.count(7), 6);
        x.undo();
        CHECK.due("undo", x.undo() + " " + x.count(13), "4 0");
    }

    private static void settingRanges() {
        int[] least = {0, 1, 0, 0, 0};
        int[] most = {20, 20, 5, 10, 10};
        for (int setting = 0; setting < 5; setting++) {
            int at = setting;
            FoleyMixer x = new FoleyMixer();
            x.set(setting, least[setting]);
            CHECK.due("least of " + setting, x.set(setting, most[setting]), least[setting]);
            CHECK.due("most of " + setting, x.count(9 + setting), most[setting]);
            for (int value : new int[] {least[setting] - 1, most[setting] + 1, LOW, HIGH}) {
                CHECK.refused("set(" + at + ", " + value + ")", Scene::small, ARGUMENT, y -> y.set(at, value));
            }
        }
        for (int setting : new int[] {-1, 5, LOW, HIGH}) {
            CHECK.refused("set(" + setting + ", 3)", Scene::small, INDEX, y -> y.set(setting, 3));
            CHECK.refused("set(" + setting + ", -1)", Scene::small, INDEX, y -> y.set(setting, -1));
        }
    }
}
