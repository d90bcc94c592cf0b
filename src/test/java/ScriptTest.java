/** Promises 8 to 13: append, clearBuffer, firstError, read, write, charAt. */
final class ScriptTest {
    private static final Check CHECK = new Check("ScriptTest");
    private static final Class<?> ARGUMENT = IllegalArgumentException.class;
    private static final int LOW = Integer.MIN_VALUE;
    private static final int HIGH = Integer.MAX_VALUE;

    public static void main(String[] args) {
        appending();
        clearing();
        errors();
        reading();
        readingWithoutRoom();
        refusedTexts();
        writing();
        writingWhatFits();
        characters();
        CHECK.end();
    }

    private static void appending() {
        FoleyMixer x = new FoleyMixer();
        CHECK.due("least code", x.append(33), 1);
        CHECK.due("greatest code", x.append(126), 2);
        for (int i = 3; i <= 80; i++) {
            CHECK.due("append " + i, x.append(33 + i), i);
        }
        CHECK.due("nothing is saved", x.count(7), 0);
        CHECK.due("one too many", Check.answer(x, y -> y.append(40)), "throws.IllegalStateException");
        for (int code : new int[] {32, 127, 0, -1, 233, LOW, HIGH}) {
            CHECK.refused("append " + code, Scene::small, ARGUMENT, y -> y.append(code));
            CHECK.refused("full: append " + code, Scene::full, ARGUMENT, y -> y.append(code));
        }
        CHECK.refused("full: append", Scene::full, IllegalStateException.class, y -> y.append('w'));
    }

    private static void clearing() {
        FoleyMixer x = Scene.typed("abc");
        CHECK.due("clear", x.clearBuffer(), 3);
        CHECK.due("cleared", x.clearBuffer() + " " + x.charAt(0) + " " + x.count(8), "0 -1 0");
        CHECK.due("nothing is saved", x.count(7), 0);
        CHECK.due("full", Scene.full().clearBuffer(), 80);
    }

    private static void error(String text, int due) {
        FoleyMixer x = Scene.typed(text);
        CHECK.due("firstError of " + text, x.firstError(), due);
        CHECK.due("the buffer stays", Told.buffer(x), text);
    }

    private static void errors() {
        String[] without = {"", "w", "n0", "N0+", "w99", "w9+1", "w0+20", "n0+19", "w5+9@", "w5+9@1", "w5+9@30",
            "w5+9@29", "N10+10@9;", "w1+1@1;n2+2@2;N3+3@3", "w1+1@1;n", "w10+20@30;w10+20@30;w"};
        for (String text : without) {
            error(text, text.length());
        }
        error("x", 0);
        error("W1", 0);
        error(";", 0);
        error("1", 0);
        error("+", 0);
        error("wn", 1);
        error("w+", 1);
        error("w-1", 1);
        error("w01", 2);
        error("w00", 2);
        error("w100", 3);
        error("w1@", 2);
        error("w1;", 2);
        error("w1+0", 3);
        error("w1+@", 3);
        error("w1+01", 3);
        error("w1+21", 4);
        error("w1+30", 4);
        error("w1+99", 4);
        error("w1+200", 5);
        error("w1+2+", 4);
        error("w1+2;", 4);
        error("w1+2@0", 5);
        error("w1+2@;", 5);
        error("w1+2@31", 6);
        error("w1+2@40", 6);
        error("w1+2@300", 7);
        error("w1+2@3@", 6);
        error("w1+2@3w", 6);
        error("w1+2@3;;", 7);
        error("w1+2@3;1", 7);
        error("x1+2@3;x", 0);
        error("w1+2@3;n4+5@6;N7+21@9", 18);
    }

    private static void reading() {
        FoleyMixer x = Scene.small();
        x.clearBuffer();
        Scene.type(x, "w0+1@1;n99+20@30;N5+10@29");
        CHECK.due("read", x.read(), 3);
        CHECK.due("the buffer is empty", x.count(8), 0);
        CHECK.due("counts", x.count(0) + " " + x.count(1) + " " + x.count(7), "2 4 5");
        CHECK.due("state", Told.state(x), "6 2 1 2 1 w10 4 12 w0 1 1 n8 10 16 0 n90 20 30 1 n99 20 30 0 n5 10 29 1 ");
        CHECK.due("undone as one call", x.undo() + " " + x.count(0) + " " + x.count(1), "4 1 2");
        CHECK.due("the buffer is not undone", x.count(8), 0);
        CHECK.due("one cue", Scene.typed("w1+2@3").read(), 1);
    }

    private static void readingWithoutRoom() {
        FoleyMixer x = new FoleyMixer();
        for (int i = 0; i < 9; i++) {
            x.word(i, 1, 1);
        }
        Scene.type(x, "n1+2@3;w20+2@3;w21+2@3;n4+5@6;w22+2@3");
        CHECK.due("up to the second word", x.read(), 2);
        CHECK.due("counts", x.count(0) + " " + x.count(1) + " " + x.count(8), "10 1 0");
        Scene.type(x, "w1+1@1;n1+1@1");
        CHECK.due("no room for the first one", x.read(), 0);
        CHECK.due("saved and cleared all the same", x.count(7) + " " + x.count(8), "6 0");
        CHECK.due("undo changes nothing then", x.undo() + " " + x.count(0) + " " + x.count(1), "5 10 1");
        CHECK.due("undo the reading", x.undo() + " " + x.count(0) + " " + x.count(1), "4 9 0");
        FoleyMixer full = Scene.full();
        full.remove(false, 11);
        full.clearBuffer();
        Scene.type(full, "N1+2@3;n1+2@3;n1+2@3");
        CHECK.due("up to the second noise", full.read(), 1);
        CHECK.due("the noise", full.noiseOf(11, 3) + " " + full.count(1), "1 12");
        CHECK.due("ten words", Scene.played("w1+1@1;".repeat(10) + "w1+1@1").count(0), 10);
    }

    private static void refusedTexts() {
        String[] texts = {"", "w", "w1", "w1+", "w1+2", "w1+2@", "w1+2@3;", "w1+2@3;n", "w1+2@3;n4+5", "x",
            "w1+2@31", "w01+2@3", "w1+2@3;;", "w1+2@3x", "w100+2@3", "w1+21@3", "w1+0@3", "w1+2@0"};
        for (String text : texts) {
            CHECK.refused("read " + text, () -> {
                FoleyMixer x = Scene.small();
                x.clearBuffer();
                Scene.type(x, text);
                return x;
            }, ARGUMENT, FoleyMixer::read);
        }
        CHECK.refused("full: read", Scene::full, ARGUMENT, FoleyMixer::read);
    }

    private static void writing() {
        FoleyMixer x = Scene.small();
        x.word(0, 20, 9);
        int saved = x.count(7);
        CHECK.due("write", x.write(), 4);
        CHECK.due("the buffer", Told.buffer(x), "w10+4@12;w0+20@9;n8+10@16;N90+20@30");
        CHECK.due("nothing is saved", x.count(7), saved);
        CHECK.due("it can be read", x.read(), 4);
        CHECK.due("again", x.write() + " " + Told.buffer(x).length(),
            "8 " + "w10+4@12;w0+20@9;w10+4@12;w0+20@9;n8+10@16;N90+20@30;n8+10@16;N90+20@30".length());
        FoleyMixer none = Scene.typed("abc");
        CHECK.due("nothing to write", none.write() + " " + none.count(8), "0 0");
    }

    private static FoleyMixer eightWords() {
        FoleyMixer x = new FoleyMixer();
        for (int i = 0; i < 8; i++) {
            x.word(i, 10, 10);
        }
        return x;
    }

    private static void writingWhatFits() {
        FoleyMixer x = eightWords();
        x.noise(9, 20, 30, true);
        x.noise(1, 1, 1, false);
        CHECK.due("80 characters", x.write() + " " + x.count(8), "9 80");
        CHECK.due("their end", Told.buffer(x).substring(71), ";N9+20@30");
        CHECK.due("they can be read", x.read() + " " + x.count(0) + " " + x.count(1), "2 10 2");
        x = eightWords();
        x.noise(10, 20, 30, true);
        x.noise(1, 1, 1, false);
        CHECK.due("81 are too many, nothing behind them", x.write() + " " + x.count(8), "8 71");
        x = eightWords();
        x.word(10, 20, 30);
        x.word(1, 1, 1);
        x.noise(1, 1, 1, false);
        CHECK.due("nor behind a word", x.write() + " " + x.count(8), "8 71");
        x = Scene.full();
        CHECK.due("a full play", x.write() + " " + Told.buffer(x),
            "9 w0+5@10;w10+5@11;w20+5@12;w30+5@13;w40+5@14;w50+5@15;w60+5@16;w70+5@17;w80+5@18");
    }

    private static void characters() {
        FoleyMixer x = Scene.typed("w5~");
        CHECK.due("characters", x.charAt(0) + " " + x.charAt(1) + " " + x.charAt(2), "119 53 126");
        CHECK.due("beyond", x.charAt(3) + " " + x.charAt(80) + " " + x.charAt(HIGH), "-1 -1 -1");
        CHECK.due("the last one of 80", Scene.full().charAt(79), (int) '+');
        CHECK.due("beyond 80", Scene.full().charAt(80), -1);
        x.clearBuffer();
        CHECK.due("cleared", x.charAt(0), -1);
        CHECK.refused("charAt -1", Scene::small, ARGUMENT, y -> y.charAt(-1));
        CHECK.refused("charAt least", Scene::small, ARGUMENT, y -> y.charAt(LOW));
    }
}
