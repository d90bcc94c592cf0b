/** Each sentence of promises 1 to 7 that names a boundary, in the document's order. */
final class CueBoundaryTest {
    private static final Check CHECK = new Check("CueBoundaryTest");
    private static final Class<?> ARGUMENT = IllegalArgumentException.class;
    private static final Class<?> STATE = IllegalStateException.class;
    private static final Class<?> INDEX = IndexOutOfBoundsException.class;

    public static void main(String[] args) {
        newObject();
        wordReturns();
        wordOutOfRange();
        wordWithoutRoom();
        noiseReturns();
        noiseOutOfRange();
        noiseWithoutRoom();
        removeReturns();
        removeWithoutOne();
        shiftReturns();
        shiftWithoutOne();
        shiftOutOfRange();
        shiftOfTheStart();
        loudReturns();
        loudWithoutOne();
        loudOutOfRange();
        setReturns();
        setWithoutOne();
        setOutOfRange();
        CHECK.end();
    }

    private static void newObject() {
        CHECK.sentence("Promise 1: Creates a play without words and noises.");
        FoleyMixer x = new FoleyMixer();
        CHECK.due("everything", Told.all(x), "6 2 1 2 0 saved 0 buffer 0 ");
        CHECK.due("no word 0", Check.answer(x, y -> y.wordOf(0, 0)), "throws.IndexOutOfBoundsException");
        CHECK.due("no noise 0", Check.answer(x, y -> y.noiseOf(0, 0)), "throws.IndexOutOfBoundsException");
        for (int what = 0; what <= 5; what++) {
            String due = what == 5 ? "-1 -1" : "0 0";
            CHECK.due("the seconds 0 and 1, " + what, Told.seconds(x, 0, 1, what), due);
            CHECK.due("the seconds 118 and 119, " + what, Told.seconds(x, 118, 119, what), due);
        }
        FoleyMixer other = Scene.full();
        CHECK.due("another object does not matter", Told.all(new FoleyMixer()), Told.all(x));
        CHECK.due("nor does it change", other.count(0) + " " + other.count(1), "10 12");
    }

    private static void wordReturns() {
        CHECK.sentence("Promise 2: Returns its number.");
        FoleyMixer x = new FoleyMixer();
        for (int number = 0; number < 10; number++) {
            CHECK.due("word " + number, x.word(99 - number, 20, 30), number);
        }
        CHECK.due("the first and the last", x.wordOf(0, 0) + " " + x.wordOf(9, 0), "99 90");
        x.remove(true, 3);
        CHECK.due("the last number again", x.word(1, 1, 1), 9);
    }

    private static void wordOutOfRange() {
        CHECK.sentence("Promise 2: Throws IllegalArgumentException if an argument is out of range");
        CHECK.due("all the least", Told.word(Scene.played("w0+1@1"), 0), "0 1 1 0 0 0 0");
        FoleyMixer x = new FoleyMixer();
        x.word(99, 20, 30);
        CHECK.due("all the greatest", Told.word(x, 0), "99 20 30 20 -1 1 0");
        CHECK.range("start", 0, 99, FoleyMixer::new, ARGUMENT, (y, start) -> y.word(start, 20, 30));
        CHECK.range("length", 1, 20, FoleyMixer::new, ARGUMENT, (y, length) -> y.word(99, length, 30));
        CHECK.range("loud", 1, 30, FoleyMixer::new, ARGUMENT, (y, loud) -> y.word(99, 20, loud));
    }

    private static void wordWithoutRoom() {
        CHECK.sentence("Promise 2: Throws IllegalStateException if there are 10 words");
        CHECK.refused("the eleventh", Scene::full, STATE, x -> x.word(0, 1, 1));
        FoleyMixer x = Scene.full();
        x.remove(true, 0);
        CHECK.due("with room again", x.word(0, 1, 1), 9);
    }

    private static void noiseReturns() {
        CHECK.sentence("Promise 3: Returns its number.");
        FoleyMixer x = new FoleyMixer();
        for (int number = 0; number < 12; number++) {
            CHECK.due("noise " + number, x.noise(99 - number, 20, 30, number > 5), number);
        }
        CHECK.due("the first and the last", x.noiseOf(0, 0) + " " + x.noiseOf(11, 0), "99 88");
        x.remove(false, 3);
        CHECK.due("the last number again", x.noise(1, 1, 1, true), 11);
    }

    private static void noiseOutOfRange() {
        CHECK.sentence("Promise 3: Throws IllegalArgumentException if an argument is out of range");
        FoleyMixer x = new FoleyMixer();
        x.noise(0, 1, 1, false);
        x.noise(99, 20, 30, true);
        CHECK.due("all the least", Told.noise(x, 0), "0 1 1 0 1 0 0");
        CHECK.due("all the greatest", Told.noise(x, 1), "99 20 30 1 600 0 0");
        for (boolean hard : new boolean[] {false, true}) {
            CHECK.range("start", 0, 99, FoleyMixer::new, ARGUMENT, (y, start) -> y.noise(start, 20, 30, hard));
            CHECK.range("length", 1, 20, FoleyMixer::new, ARGUMENT, (y, length) -> y.noise(99, length, 30, hard));
            CHECK.range("loud", 1, 30, FoleyMixer::new, ARGUMENT, (y, loud) -> y.noise(99, 20, loud, hard));
        }
    }

    private static void noiseWithoutRoom() {
        CHECK.sentence("Promise 3: Throws IllegalStateException if there are 12 noises");
        CHECK.refused("the thirteenth", Scene::full, STATE, x -> x.noise(0, 1, 1, false));
        FoleyMixer x = Scene.full();
        x.remove(false, 11);
        CHECK.due("with room again", x.noise(0, 1, 1, false), 11);
    }

    private static void removeReturns() {
        CHECK.sentence("Promise 4: Returns how many words, or noises, are left.");
        FoleyMixer x = Scene.full();
        for (int left = 9; left >= 0; left--) {
            CHECK.due("words, the last one removed", x.remove(true, left), left);
        }
        for (int left = 11; left >= 0; left--) {
            CHECK.due("noises, the first one removed", x.remove(false, 0), left);
        }
        CHECK.due("nothing is left", Told.state(x), "6 2 1 2 0 ");
    }

    private static void removeWithoutOne() {
        CHECK.sentence("Promise 4: Throws IndexOutOfBoundsException if there is no such word or noise");
        CHECK.range("word", 0, 9, Scene::full, INDEX, (x, number) -> x.remove(true, number));
        CHECK.range("noise", 0, 11, Scene::full, INDEX, (x, number) -> x.remove(false, number));
        CHECK.refused("word of none", () -> Scene.played("n1+1@1"), INDEX, x -> x.remove(true, 0));
        CHECK.refused("noise of none", () -> Scene.played("w1+1@1"), INDEX, x -> x.remove(false, 0));
    }

    private static void shiftReturns() {
        CHECK.sentence("Promise 5: Returns its start then.");
        FoleyMixer x = Scene.played("w0+20@30;n99+1@1");
        CHECK.due("a word by 99", x.shift(true, 0, 99) + " " + Told.word(x, 0), "99 99 20 30 20 -1 1 0");
        CHECK.due("a noise by -99", x.shift(false, 0, -99) + " " + Told.noise(x, 0), "0 0 1 1 0 1 0 0");
        CHECK.due("a word by 0", x.shift(true, 0, 0), 99);
        CHECK.due("a word by -1", x.shift(true, 0, -1), 98);
        CHECK.due("a noise by 1", x.shift(false, 0, 1), 1);
    }

    private static void shiftWithoutOne() {
        CHECK.sentence("Promise 5: Throws IndexOutOfBoundsException if there is no such word or noise");
        CHECK.range("word", 0, 9, Scene::full, INDEX, (x, number) -> x.shift(true, number, 1));
        CHECK.range("noise", 0, 11, Scene::full, INDEX, (x, number) -> x.shift(false, number, 1));
        CHECK.refused("word of none", FoleyMixer::new, INDEX, x -> x.shift(true, 0, 0));
        CHECK.refused("noise of none", FoleyMixer::new, INDEX, x -> x.shift(false, 0, 0));
    }

    private static void shiftOutOfRange() {
        CHECK.sentence("Promise 5: Throws IllegalArgumentException if by is out of range");
        for (int by : new int[] {-100, 100, Integer.MIN_VALUE, Integer.MAX_VALUE}) {
            CHECK.refused("a word by " + by, Scene::full, ARGUMENT, x -> x.shift(true, 0, by));
            CHECK.refused("a noise by " + by, Scene::full, ARGUMENT, x -> x.shift(false, 11, by));
        }
    }

    private static void shiftOfTheStart() {
        CHECK.sentence("Promise 5: ... or the start would not be 0 to 99");
        FoleyMixer x = Scene.small();
        CHECK.due("a word to 0", x.shift(true, 0, -10), 0);
        CHECK.due("a word to 99", x.shift(true, 0, 99), 99);
        CHECK.due("a noise to 99", x.shift(false, 1, 9), 99);
        CHECK.due("a noise to 0", x.shift(false, 0, -8), 0);
        CHECK.refused("a word to -1", Scene::small, ARGUMENT, y -> y.shift(true, 0, -11));
        CHECK.refused("a word to 100", Scene::small, ARGUMENT, y -> y.shift(true, 0, 90));
        CHECK.refused("a noise to -1", Scene::small, ARGUMENT, y -> y.shift(false, 0, -9));
        CHECK.refused("a noise to 100", Scene::small, ARGUMENT, y -> y.shift(false, 1, 10));
        CHECK.refused("a word to -89", Scene::small, ARGUMENT, y -> y.shift(true, 0, -99));
        CHECK.refused("a noise to 189", Scene::small, ARGUMENT, y -> y.shift(false, 1, 99));
    }

    private static void loudReturns() {
        CHECK.sentence("Promise 6: Returns the previous loudness.");
        FoleyMixer x = Scene.played("w5+1@30;N9+1@1");
        CHECK.due("a word to the least", x.loud(true, 0, 1) + " " + x.wordOf(0, 2), "30 1");
        CHECK.due("a word to the greatest", x.loud(true, 0, 30) + " " + x.wordOf(0, 2), "1 30");
        CHECK.due("a noise to the greatest", x.loud(false, 0, 30) + " " + x.noiseOf(0, 2), "1 30");
        CHECK.due("a noise to the least", x.loud(false, 0, 1) + " " + x.noiseOf(0, 2), "30 1");
        CHECK.due("as it is", x.loud(false, 0, 1) + " " + x.noiseOf(0, 3), "1 1");
    }

    private static void loudWithoutOne() {
        CHECK.sentence("Promise 6: Throws IndexOutOfBoundsException if there is no such word or noise");
        CHECK.range("word", 0, 9, Scene::full, INDEX, (x, number) -> x.loud(true, number, 1));
        CHECK.range("noise", 0, 11, Scene::full, INDEX, (x, number) -> x.loud(false, number, 1));
        CHECK.refused("word of none", FoleyMixer::new, INDEX, x -> x.loud(true, 0, 1));
        CHECK.refused("noise of none", FoleyMixer::new, INDEX, x -> x.loud(false, 0, 1));
    }

    private static void loudOutOfRange() {
        CHECK.sentence("Promise 6: Throws IllegalArgumentException if loud is out of range");
        CHECK.range("a word", 1, 30, Scene::small, ARGUMENT, (x, loud) -> x.loud(true, 0, loud));
        CHECK.range("a noise", 1, 30, Scene::small, ARGUMENT, (x, loud) -> x.loud(false, 1, loud));
    }

    private static void setReturns() {
        CHECK.sentence("Promise 7: Returns the previous value.");
        FoleyMixer x = new FoleyMixer();
        int[] first = {6, 2, 1, 2, 0};
        int[] least = {0, 1, 0, 0, 0};
        int[] most = {20, 20, 5, 10, 10};
        for (int setting = 0; setting < 5; setting++) {
            CHECK.due("at first " + setting, x.set(setting, least[setting]), first[setting]);
            CHECK.due("the least of " + setting, x.set(setting, most[setting]), least[setting]);
            CHECK.due("the greatest of " + setting, x.set(setting, most[setting]), most[setting]);
        }
        CHECK.due("all", Told.state(x), "20 20 5 10 10 ");
    }

    private static void setWithoutOne() {
        CHECK.sentence("Promise 7: Throws IndexOutOfBoundsException if there is no such setting");
        CHECK.range("setting", 0, 4, Scene::small, INDEX, (x, setting) -> x.set(setting, 1));
    }

    private static void setOutOfRange() {
        CHECK.sentence("Promise 7: Throws IllegalArgumentException if value is out of range");
        CHECK.range("the ducking", 0, 20, Scene::full, ARGUMENT, (x, value) -> x.set(0, value));
        CHECK.range("the release", 1, 20, Scene::full, ARGUMENT, (x, value) -> x.set(1, value));
        CHECK.range("the spill", 0, 5, Scene::full, ARGUMENT, (x, value) -> x.set(2, value));
        CHECK.range("the margin", 0, 10, Scene::full, ARGUMENT, (x, value) -> x.set(3, value));
        CHECK.range("the masked seconds", 0, 10, Scene::full, ARGUMENT, (x, value) -> x.set(4, value));
    }
}
