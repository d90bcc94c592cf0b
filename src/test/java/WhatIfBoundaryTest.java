/** Each sentence of promises 22 to 26 that names a boundary, in the document's order. */
final class WhatIfBoundaryTest {
    private static final Check CHECK = new Check("WhatIfBoundaryTest");
    private static final Class<?> ARGUMENT = IllegalArgumentException.class;
    private static final Class<?> INDEX = IndexOutOfBoundsException.class;

    public static void main(String[] args) {
        leastDucking();
        leastDuckingOfNone();
        leastDuckingOfNoWords();
        ifSetTells();
        ifSetWithoutOne();
        ifSetOutOfRange();
        ifSetOfNeither();
        bestShiftReturns();
        bestShiftOfTheStart();
        bestShiftOfSeveral();
        bestShiftWithoutOne();
        loudestQuietReturns();
        loudestQuietOfNone();
        loudestQuietWithoutOne();
        heard();
        heardWithoutWords();
        nothingChanges();
        CHECK.end();
    }

    private static int leastDucking(String script) {
        return Scene.played(script).leastDucking();
    }

    private static void leastDucking() {
        CHECK.sentence("Promise 22: Returns the value of the setting 0, 0 to 20");
        CHECK.due("0", leastDucking("w0+1@11;n0+1@9"), 0);
        CHECK.due("1", leastDucking("w0+1@11;n0+1@10"), 1);
        CHECK.due("19", leastDucking("w0+1@11;n0+1@28"), 19);
        CHECK.due("20", leastDucking("w0+1@11;n0+1@29"), 20);
        FoleyMixer x = Scene.played("w0+1@11;n0+1@10");
        x.set(0, 20);
        CHECK.due("with a greater setting", x.leastDucking(), 1);
    }

    private static void leastDuckingOfNone() {
        CHECK.sentence("Promise 22: NONE if there is none.");
        CHECK.due("21 would be needed", leastDucking("w0+1@11;n0+1@30"), -1);
        CHECK.due("a hard noise", leastDucking("w0+1@11;N0+1@10"), -1);
        CHECK.due("one of two words", leastDucking("w0+1@30;w9+1@1"), -1);
    }

    private static void leastDuckingOfNoWords() {
        CHECK.sentence("Promise 22: the least ducking with which all words would be understood.");
        CHECK.due("a new object", new FoleyMixer().leastDucking(), 0);
        CHECK.due("noises alone", leastDucking("N0+20@30;n0+20@30"), 0);
        CHECK.due("words alone", leastDucking("w0+20@30;w20+20@2"), 0);
        FoleyMixer x = new FoleyMixer();
        for (int i = 0; i < 10; i++) {
            x.word(i, 1, 11);
        }
        x.noise(9, 1, 15, false);
        CHECK.due("the tenth word", x.leastDucking(), 6);
    }

    private static void ifSetTells() {
        CHECK.sentence("Promise 23: 0 the words that would be understood, as a bit mask, 1 the masked seconds");
        FoleyMixer none = Scene.played("n0+1@9");
        CHECK.due("without words", none.ifSet(0, 20, 0) + " " + none.ifSet(0, 20, 1), "0 0");
        FoleyMixer x = Scene.played("w5+4@12;w20+2@30;n3+9@30");
        CHECK.due("the least ducking", x.ifSet(0, 0, 0) + " " + x.ifSet(0, 0, 1), "2 4");
        CHECK.due("the greatest ducking", x.ifSet(0, 20, 0) + " " + x.ifSet(0, 20, 1), "3 0");
        FoleyMixer y = Scene.played("w0+1@30;w3+1@9;w9+10@1;w40+11@1;N0+1@25;N0+1@1");
        CHECK.due("the least spill", y.ifSet(2, 0, 0) + " " + y.ifSet(2, 0, 1), "3 21");
        CHECK.due("the greatest spill", y.ifSet(2, 5, 0) + " " + y.ifSet(2, 5, 1), "2 22");
        CHECK.due("the least margin", y.ifSet(3, 0, 0) + " " + y.ifSet(3, 0, 1), "15 0");
        CHECK.due("the greatest margin", y.ifSet(3, 10, 0) + " " + y.ifSet(3, 10, 1), "0 23");
        CHECK.due("the least masked seconds", y.ifSet(4, 0, 0) + " " + y.ifSet(4, 0, 1), "3 21");
        CHECK.due("the greatest masked seconds", y.ifSet(4, 10, 0) + " " + y.ifSet(4, 10, 1), "7 21");
        FoleyMixer z = Scene.played("w0+1@20;w2+1@2;n1+9@2");
        CHECK.due("the least release", z.ifSet(1, 1, 0) + " " + z.ifSet(1, 1, 1), "3 0");
        CHECK.due("the greatest release", z.ifSet(1, 20, 0) + " " + z.ifSet(1, 20, 1), "3 0");
    }

    private static void ifSetWithoutOne() {
        CHECK.sentence("Promise 23: Throws IndexOutOfBoundsException if there is no such setting");
        CHECK.range("setting, 0", 0, 4, Scene::small, INDEX, (x, setting) -> x.ifSet(setting, 1, 0));
        CHECK.range("setting, 1", 0, 4, FoleyMixer::new, INDEX, (x, setting) -> x.ifSet(setting, 1, 1));
    }

    private static void ifSetOutOfRange() {
        CHECK.sentence("Promise 23: Throws IllegalArgumentException if value is out of range");
        for (int what = 0; what <= 1; what++) {
            int at = what;
            CHECK.range("the ducking", 0, 20, Scene::small, ARGUMENT, (x, value) -> x.ifSet(0, value, at));
            CHECK.range("the release", 1, 20, Scene::small, ARGUMENT, (x, value) -> x.ifSet(1, value, at));
            CHECK.range("the spill", 0, 5, Scene::small, ARGUMENT, (x, value) -> x.ifSet(2, value, at));
            CHECK.range("the margin", 0, 10, Scene::small, ARGUMENT, (x, value) -> x.ifSet(3, value, at));
            CHECK.range("the masked seconds", 0, 10, Scene::small, ARGUMENT, (x, value) -> x.ifSet(4, value, at));
        }
    }

    private static void ifSetOfNeither() {
        CHECK.sentence("Promise 23: ... or what is neither 0 nor 1");
        for (int setting = 0; setting <= 4; setting++) {
            int at = setting;
            CHECK.range("what", 0, 1, Scene::small, ARGUMENT, (x, what) -> x.ifSet(at, 1, what));
        }
    }

    private static int bestShift(String script) {
        return Scene.played(script).bestShift(0);
    }

    private static void bestShiftReturns() {
        CHECK.sentence("Promise 24: of the shifts by -10 to 10 ... Returns the shift, plus 10.");
        CHECK.due("by 0", bestShift("w50+1@9;n60+1@9"), 10);
        CHECK.due("by 10", bestShift("w40+20@12;N50+20@12"), 20);
        CHECK.due("by -10", bestShift("w40+20@12;N31+20@12"), 0);
        CHECK.due("by 11 it would be none", bestShift("w30+20@12;w50+10@12;N49+1@12"), 10);
        CHECK.due("by -11 it would be none", bestShift("w50+20@12;w40+10@12;N50+1@12"), 10);
        CHECK.due("no shift that is of use", bestShift("w30+20@12;w50+20@12;N49+1@12"), 10);
        CHECK.due("10 is of use, 11 is not needed", bestShift("w30+20@12;w50+9@12;N49+1@12"), 20);
        CHECK.due("-10 is of use, -11 is not needed", bestShift("w50+20@12;w41+9@12;N50+1@12"), 0);
        CHECK.due("without words", bestShift("N0+20@30"), 10);
    }

    private static void bestShiftOfTheStart() {
        CHECK.sentence("Promise 24: with which its start would be 0 to 99");
        CHECK.due("to 0", bestShift("w1+15@12;N3+1@12"), 7);
        CHECK.due("not to -1", bestShift("w0+15@12;N3+1@12"), 10);
        CHECK.due("to 99", bestShift("w79+20@12;N96+1@12"), 13);
        CHECK.due("not to 100", bestShift("w80+20@12;N96+1@12"), 10);
        CHECK.due("from 0", bestShift("w0+10@12;N0+1@12"), 20);
        CHECK.due("from 99", bestShift("w90+20@12;N99+1@12"), 0);
    }

    private static void bestShiftOfSeveral() {
        CHECK.sentence("Promise 24: of several the one of the least size, of two of these the positive one");
        CHECK.due("1 and -1", bestShift("w50+1@12;N50+1@12"), 11);
        CHECK.due("10 and -10", bestShift("w41+19@12;N50+1@12"), 20);
        CHECK.due("2 and -1", bestShift("w50+2@12;N50+1@12"), 9);
        CHECK.due("1 and -2", bestShift("w49+2@12;N50+1@12"), 11);
        CHECK.due("0 is as good as each other", bestShift("w0+20@1;w20+20@1;N19+1@1"), 10);
        CHECK.due("-1 alone has room", bestShift("w99+1@12;N99+1@12"), 9);
        CHECK.due("the fewest, not the nearest", bestShift("w50+9@12;N50+9@12"), 19);
    }

    private static void bestShiftWithoutOne() {
        CHECK.sentence("Promise 24: Throws IndexOutOfBoundsException if there is no such noise");
        CHECK.range("noise", 0, 11, Scene::full, INDEX, FoleyMixer::bestShift);
        CHECK.refused("of none", () -> Scene.played("w1+1@1"), INDEX, x -> x.bestShift(0));
    }

    private static int loudestQuiet(String script) {
        return Scene.played(script).loudestQuiet(0);
    }

    private static void loudestQuietReturns() {
        CHECK.sentence("Promise 25: Returns the loudness, 1 to 30");
        CHECK.due("1", loudestQuiet("w0+1@3;N0+1@30"), 1);
        CHECK.due("2", loudestQuiet("w0+1@4;N0+1@1"), 2);
        CHECK.due("29", loudestQuiet("w0+1@25;n0+1@30"), 29);
        CHECK.due("30, just so", loudestQuiet("w0+1@26;n0+1@1"), 30);
        CHECK.due("30 without words", loudestQuiet("N0+1@1"), 30);
        CHECK.due("30 over a word that is masked without it", loudestQuiet("w0+1@1;N0+1@1"), 30);
        CHECK.due("30 beside all words", loudestQuiet("w0+1@2;N1+1@1"), 30);
    }

    private static void loudestQuietOfNone() {
        CHECK.sentence("Promise 25: 0 if there is none.");
        CHECK.due("not even 1", loudestQuiet("w0+1@2;N0+1@1"), 0);
        CHECK.due("by its spill alone", loudestQuiet("w0+1@11;N0+1@1;N0+1@9"), 0);
        CHECK.due("1 is ducked", loudestQuiet("w0+1@2;n0+1@1"), 6);
    }

    private static void loudestQuietWithoutOne() {
        CHECK.sentence("Promise 25: Throws IndexOutOfBoundsException if there is no such noise");
        CHECK.range("noise", 0, 11, Scene::full, INDEX, FoleyMixer::loudestQuiet);
        CHECK.refused("of none", () -> Scene.played("w1+1@1"), INDEX, x -> x.loudestQuiet(0));
    }

    private static void heard() {
        CHECK.sentence("Promise 26: the seconds in which words are heard, all together, ... divided by the lengths");
        CHECK.due("none", Scene.played("w0+20@1;w99+20@1").heard(), 0.0);
        CHECK.due("all", Scene.played("w0+20@2;w99+20@2").heard(), 1.0);
        CHECK.due("one of 1", Scene.played("w0+1@2").heard(), 1.0);
        CHECK.due("one of 3", Scene.played("w0+1@2;w9+2@1").heard(), 1.0 / 3.0);
        FoleyMixer x = new FoleyMixer();
        for (int i = 0; i < 10; i++) {
            x.word(99, 20, 1);
        }
        x.loud(true, 9, 30);
        CHECK.due("20 of 200", x.heard(), 20.0 / 200.0);
    }

    private static void heardWithoutWords() {
        CHECK.sentence("Promise 26: 1.0 without words.");
        CHECK.due("a new object", new FoleyMixer().heard(), 1.0);
        CHECK.due("noises alone", Scene.played("N0+20@30").heard(), 1.0);
        FoleyMixer x = Scene.played("w0+1@1");
        x.remove(true, 0);
        CHECK.due("when all are removed", x.heard(), 1.0);
    }

    private static void nothingChanges() {
        CHECK.sentence("what would be; nothing changes");
        Check.Call[] calls = {FoleyMixer::leastDucking, x -> x.ifSet(0, 20, 0), x -> x.ifSet(4, 10, 1),
            x -> x.bestShift(0), x -> x.bestShift(11), x -> x.loudestQuiet(0), x -> x.loudestQuiet(11),
            FoleyMixer::heard};
        for (int i = 0; i < calls.length; i++) {
            FoleyMixer x = Scene.full();
            FoleyMixer untouched = Scene.full();
            String first = Check.answer(x, calls[i]);
            CHECK.due("call " + i + " again", Check.answer(x, calls[i]), first);
            CHECK.due("call " + i + ", everything", Told.all(x), Told.all(untouched));
            CHECK.due("call " + i + ", what it sounds like", Told.seconds(x, 0, 119, 3) + Told.seconds(x, 0, 119, 4),
                Told.seconds(untouched, 0, 119, 3) + Told.seconds(untouched, 0, 119, 4));
            CHECK.due("call " + i + ", what is saved", Told.savedAndKept(x), Told.savedAndKept(untouched));
        }
    }
}
