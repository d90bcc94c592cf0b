/** Promises 22 to 26: leastDucking, ifSet, bestShift, loudestQuiet, heard. */
final class WhatIfTest {
    private static final Check CHECK = new Check("WhatIfTest");
    private static final Class<?> ARGUMENT = IllegalArgumentException.class;
    private static final Class<?> INDEX = IndexOutOfBoundsException.class;
    private static final int LOW = Integer.MIN_VALUE;
    private static final int HIGH = Integer.MAX_VALUE;

    public static void main(String[] args) {
        leastDucking();
        ifSet();
        refusedIfSet();
        bestShift();
        bestShiftAtTheEdges();
        loudestQuiet();
        heard();
        CHECK.end();
    }

    private static int leastDucking(String script) {
        return Scene.played(script).leastDucking();
    }

    private static void leastDucking() {
        CHECK.due("no words", new FoleyMixer().leastDucking(), 0);
        CHECK.due("no words, but a noise", leastDucking("N0+9@30"), 0);
        CHECK.due("not needed", leastDucking("w0+4@12;n0+4@10"), 0);
        CHECK.due("by one", leastDucking("w0+4@11;n0+4@10"), 1);
        CHECK.due("the most", leastDucking("w0+4@2;n0+4@20"), 20);
        CHECK.due("more than the most", leastDucking("w0+4@2;n0+4@21"), -1);
        CHECK.due("a hard noise", leastDucking("w0+4@11;N0+4@10"), -1);
        CHECK.due("two soft noises, the spill", leastDucking("w0+4@11;n0+4@10;n0+4@3"), 2);
        CHECK.due("too low with nothing around", leastDucking("w0+1@1"), -1);
        FoleyMixer x = Scene.played("w0+4@11;N0+2@10");
        x.set(4, 2);
        CHECK.due("masked seconds that may be", x.leastDucking(), 0);
        FoleyMixer y = Scene.played("w0+4@12;n0+4@20");
        y.set(0, 20);
        CHECK.due("not the setting itself", y.leastDucking() + " " + y.count(9), "10 20");
    }

    private static void ifSet() {
        FoleyMixer x = Scene.played("w5+4@12;w30+2@30;n5+4@17;N6+1@11");
        CHECK.due("as it is", x.count(2) + " " + x.count(3), "2 4");
        CHECK.due("more ducking, understood", x.ifSet(0, 7, 0), 2);
        CHECK.due("more ducking, masked", x.ifSet(0, 7, 1), 1);
        CHECK.due("no spill", x.ifSet(2, 0, 1), 4);
        CHECK.due("no margin", x.ifSet(3, 0, 0), 3);
        CHECK.due("no margin, masked", x.ifSet(3, 0, 1), 0);
        CHECK.due("four masked seconds", x.ifSet(4, 4, 0) + " " + x.ifSet(4, 4, 1), "3 4");
        CHECK.due("a setting as it is", x.ifSet(1, 2, 0) + " " + x.ifSet(1, 2, 1), "2 4");
        CHECK.due("the settings stay", Told.state(x).substring(0, 10), "6 2 1 2 0 ");
        int[] least = {0, 1, 0, 0, 0};
        int[] most = {20, 20, 5, 10, 10};
        for (int setting = 0; setting < 5; setting++) {
            for (int value = least[setting]; value <= most[setting]; value++) {
                String told = x.ifSet(setting, value, 0) + " " + x.ifSet(setting, value, 1);
                x.set(setting, value);
                CHECK.due("ifSet(" + setting + ", " + value + ")", told, x.count(2) + " " + x.count(3));
                x.undo();
            }
        }
        CHECK.due("the buffer and what is saved stay", x.count(7) + " " + x.count(8), "1 0");
    }

    private static void refusedIfSet() {
        int[] least = {0, 1, 0, 0, 0};
        int[] most = {20, 20, 5, 10, 10};
        for (int setting = 0; setting < 5; setting++) {
            int at = setting;
            for (int value : new int[] {least[setting] - 1, most[setting] + 1, LOW, HIGH}) {
                CHECK.refused("ifSet " + at + ", " + value, Scene::small, ARGUMENT, x -> x.ifSet(at, value, 0));
            }
            for (int what : new int[] {-1, 2, LOW, HIGH}) {
                CHECK.refused("ifSet " + at + " what " + what, Scene::small, ARGUMENT, x -> x.ifSet(at, 3, what));
            }
        }
        for (int setting : new int[] {-1, 5, LOW, HIGH}) {
            CHECK.refused("ifSet " + setting, Scene::small, INDEX, x -> x.ifSet(setting, 3, 1));
            CHECK.refused("ifSet " + setting + ", all wrong", Scene::small, INDEX, x -> x.ifSet(setting, -1, 2));
        }
    }

    private static int bestShift(String script) {
        return Scene.played(script).bestShift(0) - 10;
    }

    private static void bestShift() {
        CHECK.due("nothing is masked", bestShift("w50+4@30;n52+3@30"), 0);
        CHECK.due("nothing helps", bestShift("w50+4@1;n52+3@1"), 0);
        CHECK.due("to the later side", bestShift("w50+4@12;N52+3@12"), 2);
        CHECK.due("to the earlier side", bestShift("w50+4@12;N49+3@12"), -2);
        CHECK.due("of one size the positive one", bestShift("w50+4@12;N51+2@12"), 3);
        CHECK.due("as far as it goes", bestShift("w40+20@12;N50+20@12"), 10);
        CHECK.due("as far as it goes back", bestShift("w40+20@12;N31+20@12"), -10);
        CHECK.due("fewer, if not none", bestShift("w40+20@12;N41+18@12;N50+1@30"), 9);
        CHECK.due("it may cover what is masked", bestShift("w50+2@12;N50+2@12;w53+9@1"), 2);
        FoleyMixer x = Scene.played("w50+4@12;n50+4@5;N52+3@12");
        CHECK.due("of the noise that is named", x.bestShift(0) + " " + x.bestShift(1), "10 12");
        CHECK.due("the noises stay", x.noiseOf(0, 0) + " " + x.noiseOf(1, 0) + " " + x.count(7), "50 52 1");
        for (int number : new int[] {-1, 2, 12, LOW, HIGH}) {
            CHECK.refused("bestShift " + number, Scene::small, INDEX, y -> y.bestShift(number));
        }
        CHECK.refused("bestShift of nothing", FoleyMixer::new, INDEX, y -> y.bestShift(0));
    }

    private static void bestShiftAtTheEdges() {
        CHECK.due("not before 0", bestShift("w0+4@12;N1+1@12"), 3);
        CHECK.due("to 0", bestShift("w1+9@12;N1+1@12"), -1);
        CHECK.due("not before 0, so by 0", bestShift("w0+20@12;N0+1@12"), 0);
        CHECK.due("to 99", bestShift("w89+10@12;N98+1@12"), 1);
        CHECK.due("not behind 99", bestShift("w95+9@12;N99+1@12"), -5);
        CHECK.due("to 99 by 10", bestShift("w79+20@12;N89+1@12"), 10);
        CHECK.due("back by 10", bestShift("w80+20@12;N89+1@12"), -10);
    }

    private static int loudestQuiet(String script) {
        return Scene.played(script).loudestQuiet(0);
    }

    private static void loudestQuiet() {
        CHECK.due("far from all words", loudestQuiet("w50+4@12;n20+3@9"), 30);
        CHECK.due("no words", loudestQuiet("n20+3@9"), 30);
        CHECK.due("a hard noise", loudestQuiet("w50+4@12;N50+3@9"), 10);
        CHECK.due("a soft noise", loudestQuiet("w50+4@12;n50+3@9"), 16);
        CHECK.due("a soft noise behind the word", loudestQuiet("w50+4@12;n53+9@9"), 16);
        CHECK.due("not even 1", loudestQuiet("w50+4@2;N50+3@9"), 0);
        CHECK.due("just 1", loudestQuiet("w50+4@3;N50+3@9"), 1);
        CHECK.due("soft, when nothing is to be heard", loudestQuiet("w50+4@2;n50+3@9"), 6);
        CHECK.due("masked already", loudestQuiet("w50+4@1;N50+3@9"), 30);
        CHECK.due("masked by the other noise", loudestQuiet("w50+4@9;N50+4@9;N50+4@9"), 30);
        CHECK.due("the spill over another noise", loudestQuiet("w50+4@12;n50+4@9;N50+4@10"), 6);
        CHECK.due("beside another noise", loudestQuiet("w50+4@12;N50+4@9;N50+4@9"), 9);
        FoleyMixer x = Scene.played("w50+4@12;w60+4@20;N50+4@9;n60+9@9");
        x.set(4, 10);
        CHECK.due("understood or not", x.loudestQuiet(0) + " " + x.loudestQuiet(1), "10 24");
        CHECK.due("the noises stay", x.noiseOf(0, 2) + " " + x.noiseOf(1, 2) + " " + x.count(7), "9 9 2");
        for (int number : new int[] {-1, 2, 12, LOW, HIGH}) {
            CHECK.refused("loudestQuiet " + number, Scene::small, INDEX, y -> y.loudestQuiet(number));
        }
        CHECK.refused("loudestQuiet of nothing", FoleyMixer::new, INDEX, y -> y.loudestQuiet(0));
    }

    private static void heard() {
        CHECK.due("no words", Scene.played("N0+9@30").heard(), 1.0);
        CHECK.due("all", Scene.played("w0+9@30;w20+3@30").heard(), 1.0);
        CHECK.due("none", Scene.played("w0+9@1").heard(), 0.0);
        CHECK.due("a third", Scene.played("w0+3@9;N1+2@9").heard(), 1.0 / 3.0);
        CHECK.due("of both words", Scene.played("w0+3@9;N1+2@9;w50+4@9").heard(), 5.0 / 7.0);
        CHECK.due("words over words", Scene.played("w0+4@20;w2+4@20").heard(), 0.5);
    }
}
