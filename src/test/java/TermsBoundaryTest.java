/** Each sentence of the document's part "Terms" that names a boundary, in the document's order. */
final class TermsBoundaryTest {
    private static final Check CHECK = new Check("TermsBoundaryTest");
    private static final Class<?> ARGUMENT = IllegalArgumentException.class;
    private static final Class<?> STATE = IllegalStateException.class;
    private static final Class<?> INDEX = IndexOutOfBoundsException.class;

    public static void main(String[] args) {
        secondsOfThePlay();
        rangesOfACue();
        whereACueSounds();
        mostWordsAndNoises();
        numbersInOrder();
        numbersThatBecomeLess();
        softOrHard();
        duckingUnderAWord();
        duckingThatFalls();
        duckingOfTheSecond0();
        strengthOfASoftNoise();
        strengthOfAHardNoise();
        levelOfTheOthers();
        levelOfNothing();
        coverByNoises();
        coverByOtherWords();
        heardAtTheMargin();
        heardWithoutCover();
        understood();
        settings();
        bufferOf80();
        oneOrMoreCues();
        kindsOfCue();
        leadingZeros();
        firstErrorOfTheBuffer();
        whatTheStateIs();
        savedEvenIfNothingChanges();
        notSavedWithAnException();
        sixStates();
        twoSlots();
        nothingChangesWithAnException();
        theExceptionListedFirst();
        none();
        CHECK.end();
    }

    // ---- cues

    private static void secondsOfThePlay() {
        CHECK.sentence("The play has the seconds 0 to 119.");
        for (int what = 0; what <= 5; what++) {
            int at = what;
            CHECK.range("second with " + what, 0, 119, Scene::full, INDEX, (x, second) -> x.second(second, at));
        }
    }

    private static void rangesOfACue() {
        CHECK.sentence("It has a start from 0 to 99, a length from 1 to 20 and a loudness from 1 to 30");
        CHECK.range("start of a word", 0, 99, Scene::small, ARGUMENT, (x, start) -> x.word(start, 5, 5));
        CHECK.range("length of a word", 1, 20, Scene::small, ARGUMENT, (x, length) -> x.word(5, length, 5));
        CHECK.range("loudness of a word", 1, 30, Scene::small, ARGUMENT, (x, loud) -> x.word(5, 5, loud));
        CHECK.range("start of a noise", 0, 99, Scene::small, ARGUMENT, (x, start) -> x.noise(start, 5, 5, true));
        CHECK.range("length of a noise", 1, 20, Scene::small, ARGUMENT, (x, length) -> x.noise(5, length, 5, false));
        CHECK.range("loudness of a noise", 1, 30, Scene::small, ARGUMENT, (x, loud) -> x.noise(5, 5, loud, true));
    }

    private static void whereACueSounds() {
        CHECK.sentence("it sounds in the seconds from its start to its start plus its length minus 1");
        FoleyMixer x = Scene.played("w5+3@9;n6+1@9");
        CHECK.due("a word of 3 seconds", Told.seconds(x, 4, 8, 1), "0 1 1 1 0");
        CHECK.due("a noise of 1 second", Told.seconds(x, 5, 7, 2), "0 1 0");
        FoleyMixer first = Scene.played("w0+1@9;N0+1@9");
        CHECK.due("a word in the second 0 alone", Told.seconds(first, 0, 1, 1), "1 0");
        CHECK.due("a noise in the second 0 alone", Told.seconds(first, 0, 1, 2), "1 0");
        FoleyMixer last = Scene.played("w99+20@9;N99+20@9");
        CHECK.due("a word up to 118", Told.seconds(last, 98, 100, 1) + " " + Told.seconds(last, 117, 119, 1),
            "0 1 1 1 1 0");
        CHECK.due("a noise up to 118", Told.seconds(last, 98, 100, 2) + " " + Told.seconds(last, 117, 119, 2),
            "0 1 1 1 1 0");
    }

    private static FoleyMixer words(int count) {
        FoleyMixer x = new FoleyMixer();
        for (int i = 0; i < count; i++) {
            CHECK.due("number of a word", x.word(i, 1, i + 1), i);
        }
        return x;
    }

    private static FoleyMixer noises(int count) {
        FoleyMixer x = new FoleyMixer();
        for (int i = 0; i < count; i++) {
            CHECK.due("number of a noise", x.noise(i, 1, i + 1, i % 2 == 0), i);
        }
        return x;
    }

    private static void mostWordsAndNoises() {
        CHECK.sentence("There are at most 10 words and at most 12 noises");
        CHECK.due("the tenth word", words(9).word(50, 1, 1), 9);
        CHECK.refused("the eleventh word", () -> words(10), STATE, x -> x.word(50, 1, 1));
        CHECK.due("a noise beside ten words", words(10).noise(50, 1, 1, true), 0);
        CHECK.due("the twelfth noise", noises(11).noise(50, 1, 1, false), 11);
        CHECK.refused("the thirteenth noise, soft", () -> noises(12), STATE, x -> x.noise(50, 1, 1, false));
        CHECK.refused("the thirteenth noise, hard", () -> noises(12), STATE, x -> x.noise(50, 1, 1, true));
        CHECK.due("a word beside twelve noises", noises(12).word(50, 1, 1), 0);
    }

    private static void numbersInOrder() {
        CHECK.sentence("both are numbered from 0 in the order in which they came");
        FoleyMixer x = new FoleyMixer();
        CHECK.due("the first word", x.word(9, 1, 1), 0);
        CHECK.due("the first noise", x.noise(8, 1, 1, true), 0);
        CHECK.due("the second word, of an earlier start", x.word(3, 1, 1), 1);
        CHECK.due("the second noise, of an earlier start", x.noise(2, 1, 1, true), 1);
        CHECK.due("their starts", x.wordOf(0, 0) + " " + x.wordOf(1, 0) + " " + x.noiseOf(0, 0) + " "
            + x.noiseOf(1, 0), "9 3 8 2");
        CHECK.due("their bits", x.second(9, 1) + " " + x.second(3, 1) + " " + x.second(8, 2) + " " + x.second(2, 2),
            "1 2 1 2");
    }

    private static String loudnesses(FoleyMixer x, boolean isWord) {
        StringBuilder text = new StringBuilder();
        for (int i = 0; i < x.count(isWord ? 0 : 1); i++) {
            text.append(isWord ? x.wordOf(i, 2) : x.noiseOf(i, 2)).append(' ');
        }
        return text.toString().trim();
    }

    private static void numbersThatBecomeLess() {
        CHECK.sentence("when one is removed, the numbers of the later ones become less by 1");
        FoleyMixer x = words(10);
        x.remove(true, 0);
        CHECK.due("without the first word", loudnesses(x, true), "2 3 4 5 6 7 8 9 10");
        CHECK.due("bits of the later words", Told.seconds(x, 0, 9, 1), "0 1 2 4 8 16 32 64 128 256");
        x.remove(true, 8);
        CHECK.due("without the last word", loudnesses(x, true), "2 3 4 5 6 7 8 9");
        x.remove(true, 4);
        CHECK.due("without one in the middle", loudnesses(x, true), "2 3 4 5 7 8 9");
        CHECK.due("the next word", x.word(50, 1, 30) + " " + loudnesses(x, true), "7 2 3 4 5 7 8 9 30");
        FoleyMixer y = noises(12);
        y.remove(false, 0);
        CHECK.due("without the first noise", loudnesses(y, false), "2 3 4 5 6 7 8 9 10 11 12");
        CHECK.due("they stay soft or hard", y.noiseOf(0, 3) + " " + y.noiseOf(1, 3), "0 1");
        y.remove(false, 10);
        CHECK.due("without the last noise", loudnesses(y, false), "2 3 4 5 6 7 8 9 10 11");
        y.remove(false, 8);
        CHECK.due("without one in the middle", loudnesses(y, false), "2 3 4 5 6 7 8 9 11");
        CHECK.due("the next noise", y.noise(50, 1, 30, true) + " " + loudnesses(y, false), "9 2 3 4 5 6 7 8 9 11 30");
        CHECK.due("words keep their numbers", Scene.played("w1+1@1;w2+1@2;n3+1@3").remove(false, 0), 0);
    }

    private static void softOrHard() {
        CHECK.sentence("A noise is soft or hard.");
        FoleyMixer x = new FoleyMixer();
        x.noise(1, 1, 1, false);
        x.noise(1, 1, 1, true);
        CHECK.due("soft, hard", x.noiseOf(0, 3) + " " + x.noiseOf(1, 3), "0 1");
    }

    // ---- ducking

    private static void duckingUnderAWord() {
        CHECK.sentence("The ducking of a second is the setting 0 if a word sounds in it");
        FoleyMixer x = Scene.played("w5+2@9;w6+2@9;n8+1@9");
        CHECK.due("under one word, two, one, a noise", Told.seconds(x, 4, 8, 0), "0 6 6 6 4");
        x.set(0, 0);
        CHECK.due("the least setting", Told.seconds(x, 4, 8, 0), "0 0 0 0 0");
        x.set(0, 20);
        CHECK.due("the greatest setting", Told.seconds(x, 4, 8, 0), "0 20 20 20 18");
        CHECK.due("a word within the release of another", Told.seconds(Scene.played("w5+1@9;w7+1@1"), 4, 9, 0),
            "0 6 4 6 4 2");
    }

    private static void duckingThatFalls() {
        CHECK.sentence("otherwise it is the ducking of the second before minus the setting 1, but at least 0");
        FoleyMixer x = Scene.played("w0+1@9");
        CHECK.due("down to 0 just so", Told.seconds(x, 0, 5, 0), "6 4 2 0 0 0");
        x.set(1, 4);
        CHECK.due("down to 0, not under it", Told.seconds(x, 0, 3, 0), "6 2 0 0");
        x.set(1, 6);
        CHECK.due("all at once", Told.seconds(x, 0, 2, 0), "6 0 0");
        x.set(1, 7);
        CHECK.due("by more than there is", Told.seconds(x, 0, 2, 0), "6 0 0");
        x.set(1, 20);
        CHECK.due("the greatest release", Told.seconds(x, 0, 2, 0), "6 0 0");
        x.set(1, 1);
        CHECK.due("the least release", Told.seconds(x, 0, 7, 0), "6 5 4 3 2 1 0 0");
        CHECK.due("to the second 119", Told.seconds(Scene.played("w99+20@9"), 118, 119, 0), "6 4");
    }

    private static void duckingOfTheSecond0() {
        CHECK.sentence("(0 in the second 0)");
        CHECK.due("no words", Told.seconds(new FoleyMixer(), 0, 1, 0), "0 0");
        CHECK.due("a word in the second 1", Told.seconds(Scene.played("w1+1@9"), 0, 1, 0), "0 6");
        CHECK.due("a noise in the second 0", Told.seconds(Scene.played("N0+9@9"), 0, 1, 0), "0 0");
        CHECK.due("a word in the second 0", Scene.played("w0+1@9").second(0, 0), 6);
        CHECK.due("a word in the second 118", Scene.played("w99+20@9").second(0, 0), 0);
    }

    private static void strengthOfASoftNoise() {
        CHECK.sentence("is its loudness minus the ducking of this second, but at least 0");
        CHECK.due("over the ducking", Scene.played("w0+1@9;n0+1@7").noiseOf(0, 4), 1);
        CHECK.due("as the ducking", Scene.played("w0+1@9;n0+1@6").noiseOf(0, 4), 0);
        CHECK.due("under the ducking", Scene.played("w0+1@9;n0+1@5").noiseOf(0, 4), 0);
        CHECK.due("not ducked", Scene.played("w1+1@9;n0+1@5").noiseOf(0, 4), 5);
        CHECK.due("under it and then over it", Scene.played("w0+1@9;n0+4@3").noiseOf(0, 4), 4);
        CHECK.due("its level", Told.seconds(Scene.played("w0+1@9;n0+4@3"), 0, 4, 3), "0 0 1 3 0");
    }

    private static void strengthOfAHardNoise() {
        CHECK.sentence("The strength of a hard noise is its loudness.");
        FoleyMixer x = Scene.played("w0+2@9;N0+5@1;N50+5@30");
        x.set(0, 20);
        CHECK.due("under the greatest ducking", Told.noise(x, 0), "0 5 1 1 5 0 0");
        CHECK.due("the levels", Told.seconds(x, 0, 5, 3), "1 1 1 1 1 0");
        CHECK.due("the greatest loudness", Told.noise(x, 1), "50 5 30 1 150 0 0");
    }

    // ---- levels

    private static void levelOfTheOthers() {
        CHECK.sentence("the greatest of them plus the setting 2 for each other one that is greater than 0");
        CHECK.due("one alone", Scene.played("n0+1@9").second(0, 3), 9);
        CHECK.due("two that are the same", Scene.played("n0+1@9;n0+1@9").second(0, 3), 10);
        CHECK.due("another one of 1", Scene.played("n0+1@9;n0+1@1").second(0, 3), 10);
        CHECK.due("the greatest behind the others", Scene.played("n0+1@1;n0+1@2;N0+1@9").second(0, 3), 11);
        CHECK.due("another one of 0", Scene.played("w0+1@9;n0+1@6;n0+1@9").second(0, 3), 3);
        CHECK.due("another one under 0", Scene.played("w0+1@9;n0+1@9;n0+1@1").second(0, 3), 3);
        CHECK.due("one that sounds elsewhere", Scene.played("n0+1@9;n1+1@9").second(0, 3), 9);
        FoleyMixer x = noises(12);
        for (int i = 0; i < 6; i++) {
            x.shift(false, 11 - i, i - 11);
            x.shift(false, i, -i);
        }
        CHECK.due("all twelve noises", x.second(0, 3), 12 + 11);
        x.set(2, 5);
        CHECK.due("with the greatest spill", x.second(0, 3), 12 + 55);
        x.set(2, 0);
        CHECK.due("with the least spill", x.second(0, 3), 12);
    }

    private static void levelOfNothing() {
        CHECK.sentence("it is 0 if there are none that are greater than 0");
        FoleyMixer x = Scene.played("w0+1@9;n0+1@6;n0+1@1");
        x.set(2, 5);
        CHECK.due("strengths of 0", x.second(0, 3) + " " + x.wordOf(0, 6), "0 0");
        CHECK.due("no noises in this second", x.second(1, 3), 0);
        CHECK.due("no noises at all", new FoleyMixer().second(119, 3), 0);
    }

    private static void coverByNoises() {
        CHECK.sentence("The cover ... is the level of the strengths of all noises that sound in this second");
        CHECK.due("a soft noise, ducked", Scene.played("w5+1@9;n5+1@9").wordOf(0, 6), 3);
        CHECK.due("a hard noise", Scene.played("w5+1@9;N5+1@9").wordOf(0, 6), 9);
        CHECK.due("both", Scene.played("w5+1@9;N5+1@9;n5+1@9").wordOf(0, 6), 10);
        CHECK.due("one second before and one behind", Scene.played("w5+1@9;N4+1@9;N6+1@9").wordOf(0, 6), 0);
    }

    private static void coverByOtherWords() {
        CHECK.sentence("and of the loudnesses of all other words that sound in it");
        CHECK.due("not by itself", Scene.played("w5+1@9").wordOf(0, 6), 0);
        FoleyMixer x = Scene.played("w5+2@9;w6+2@4");
        CHECK.due("by the other one, not ducked", x.wordOf(0, 6) + " " + x.wordOf(1, 6), "4 9");
        FoleyMixer same = Scene.played("w5+1@9;w5+1@9");
        CHECK.due("by one that is the same", same.wordOf(0, 6) + " " + same.wordOf(1, 6), "9 9");
        CHECK.due("one second before and one behind", Scene.played("w5+1@9;w4+1@9;w6+1@9").wordOf(0, 6), 0);
        FoleyMixer ten = Scene.full();
        for (int i = 1; i < 10; i++) {
            ten.shift(true, i, -10 * i);
        }
        CHECK.due("nine others and a strength of 6", ten.wordOf(0, 6), 19 + 8 + 1);
        CHECK.due("the loudest by the others", ten.wordOf(9, 6), 18 + 8 + 1);
    }

    private static void heardAtTheMargin() {
        CHECK.sentence("A word is heard ... if its loudness is at least the cover plus the setting 3");
        CHECK.due("as loud as that", Scene.played("w5+1@11;N5+1@9").second(5, 4), 0);
        CHECK.due("less loud by 1", Scene.played("w5+1@10;N5+1@9").second(5, 4), 1);
        FoleyMixer x = Scene.played("w5+1@11;N5+1@9");
        CHECK.due("the greatest margin", x.ifSet(3, 10, 1), 1);
        CHECK.due("the least margin", Scene.played("w5+1@9;N5+1@9").ifSet(3, 0, 1), 0);
        CHECK.due("the least margin, less loud by 1", Scene.played("w5+1@8;N5+1@9").ifSet(3, 0, 1), 1);
    }

    private static void heardWithoutCover() {
        CHECK.sentence("(also if the cover is 0). Otherwise it is masked there.");
        CHECK.due("as loud as the margin", Scene.played("w5+1@2").second(5, 4), 0);
        CHECK.due("less loud than the margin", Scene.played("w5+1@1").second(5, 4), 1);
        CHECK.due("strengths of 0", Scene.played("w5+1@2;n5+1@6").second(5, 4), 0);
        FoleyMixer x = Scene.played("w5+1@10;w7+1@9");
        x.set(3, 10);
        CHECK.due("the greatest margin", x.second(5, 4) + " " + x.second(7, 4), "0 2");
        CHECK.due("no margin", Scene.played("w5+1@1").ifSet(3, 0, 1), 0);
    }

    private static void understood() {
        CHECK.sentence("understood if it is masked in at most as many of its seconds as the setting 4 tells");
        FoleyMixer x = Scene.played("w0+10@1;w20+11@1;w40+20@30;w70+1@1");
        CHECK.due("none may be masked", x.count(2), 4);
        x.set(4, 1);
        CHECK.due("masked in its only second", x.count(2), 12);
        x.set(4, 9);
        CHECK.due("masked in one too many", x.count(2), 12);
        x.set(4, 10);
        CHECK.due("masked in all of its ten seconds", x.count(2), 13);
        CHECK.due("masked in eleven", x.wordOf(1, 5) + " " + x.wordOf(1, 3), "0 0");
        CHECK.due("masked in none", x.wordOf(2, 5) + " " + x.wordOf(2, 3), "1 20");
    }

    // ---- settings

    private static void settings() {
        String[] sentences = {"0: the ducking, 0 to 20, at first 6", "1: the release, 1 to 20, at first 2",
            "2: the spill, 0 to 5, at first 1", "3: the margin, 0 to 10, at first 2",
            "4: the masked seconds, 0 to 10, at first 0"};
        int[][] due = {{0, 20, 6}, {1, 20, 2}, {0, 5, 1}, {0, 10, 2}, {0, 10, 0}};
        for (int setting = 0; setting < 5; setting++) {
            int at = setting;
            CHECK.sentence(sentences[setting]);
            CHECK.due("at first", new FoleyMixer().count(9 + setting), due[setting][2]);
            CHECK.range("set", due[setting][0], due[setting][1], Scene::small, ARGUMENT, (x, v) -> x.set(at, v));
            CHECK.range("ifSet", due[setting][0], due[setting][1], Scene::small, ARGUMENT, (x, v) -> x.ifSet(at, v, 0));
            FoleyMixer x = new FoleyMixer();
            x.set(setting, due[setting][0]);
            CHECK.due("the least is kept", x.count(9 + setting), due[setting][0]);
            x.set(setting, due[setting][1]);
            CHECK.due("the greatest is kept", x.count(9 + setting), due[setting][1]);
        }
    }

    // ---- script text

    private static void bufferOf80() {
        CHECK.sentence("The buffer holds at most 80 characters. It is empty at first.");
        FoleyMixer x = new FoleyMixer();
        CHECK.due("at first", x.count(8) + " " + x.charAt(0) + " " + x.clearBuffer(), "0 -1 0");
        for (int i = 1; i <= 79; i++) {
            x.append('!');
        }
        CHECK.due("the eightieth", x.append('~') + " " + x.charAt(79), "80 126");
        CHECK.due("the eighty-first", Check.answer(x, y -> y.append('!')), "throws.IllegalStateException");
        CHECK.due("it is not there", x.count(8) + " " + x.charAt(79) + " " + x.charAt(80), "80 126 -1");
    }

    private static String read(String text) {
        return Check.answer(Scene.typed(text), FoleyMixer::read);
    }

    private static int error(String text) {
        return Scene.typed(text).firstError();
    }

    private static void oneOrMoreCues() {
        CHECK.sentence("A script text is one or more cues with \";\" between them.");
        CHECK.due("none", read(""), "throws.IllegalArgumentException");
        CHECK.due("one", read("w1+1@1"), 1);
        CHECK.due("two", read("w1+1@1;w1+1@1"), 2);
        CHECK.due("eleven in 80 characters", read("w1+1@1" + ";N1+1@1".repeat(9) + ";w10+1@10"), 11);
        CHECK.due("; ahead", error(";w1+1@1"), 0);
        CHECK.due("; behind is not an error", error("w1+1@1;"), 7);
        CHECK.due("; behind is not complete", read("w1+1@1;"), "throws.IllegalArgumentException");
        CHECK.due("; twice", error("w1+1@1;;w1+1@1"), 7);
        CHECK.due("nothing between", error("w1+1@1w1+1@1"), 6);
        CHECK.due("another sign between", error("w1+1@1:w1+1@1"), 6);
    }

    private static void kindsOfCue() {
        CHECK.sentence("A cue is \"w\" or \"n\" or \"N\" ..., a start, \"+\", a length, \"@\", and a loudness.");
        FoleyMixer x = Scene.played("w1+2@3;n4+5@6;N7+8@9");
        CHECK.due("the three kinds", Told.state(x).substring(10), "w1 2 3 n4 5 6 0 n7 8 9 1 ");
        for (int code = 33; code <= 126; code++) {
            String sign = String.valueOf((char) code);
            boolean kind = "wnN".contains(sign);
            boolean digit = code >= '0' && code <= '9';
            CHECK.due("kind " + sign, error(sign), kind ? 1 : 0);
            CHECK.due("start " + sign, error("w" + sign), digit ? 2 : 1);
            CHECK.due("behind a start " + sign, error("w1" + sign), digit || code == '+' ? 3 : 2);
            CHECK.due("length " + sign, error("w1+" + sign), digit && code > '0' ? 4 : 3);
            CHECK.due("behind a length " + sign, error("w1+1" + sign), digit || code == '@' ? 5 : 4);
            CHECK.due("loudness " + sign, error("w1+1@" + sign), digit && code > '0' ? 6 : 5);
            CHECK.due("behind a loudness " + sign, error("w1+1@1" + sign), digit || code == ';' ? 7 : 6);
            CHECK.due("kind behind ; " + sign, error("w1+1@1;" + sign), kind ? 8 : 7);
        }
    }

    private static void leadingZeros() {
        CHECK.sentence("Numbers have no leading zeros.");
        CHECK.due("a start of 0", read("w0+1@1"), 1);
        CHECK.due("a start of 00", error("w00+1@1"), 2);
        CHECK.due("a start of 05", error("w05+1@1"), 2);
        CHECK.due("a length of 01", error("n5+01@1"), 3);
        CHECK.due("a loudness of 01", error("N5+1@01"), 5);
        CHECK.due("a zero at the end of each", read("w10+10@10;n90+20@30"), 2);
        CHECK.due("in a later cue", error("w0+1@1;w09+1@1"), 9);
    }

    private static void firstErrorOfTheBuffer() {
        CHECK.sentence("the index of the first character that no script text can have after the characters before it");
        for (int start = 0; start <= 120; start++) {
            CHECK.due("start " + start, error("w" + start), start <= 99 ? start < 10 ? 2 : 3 : 3);
        }
        for (int length = 1; length <= 99; length++) {
            CHECK.due("length " + length, error("w5+" + length), length <= 9 ? 4 : length <= 20 ? 5 : 4);
            int due = length <= 9 ? 6 : length <= 30 ? 7 : 6;
            CHECK.due("loudness " + length, error("w5+5@" + length), due);
        }
        CHECK.due("a length of three digits", error("w5+200@5"), 5);
        CHECK.due("a loudness of three digits", error("w5+5@300"), 7);
        CHECK.due("at the last of 80 characters", error("w1+1@1" + ";n1+1@1".repeat(10) + ";;ww"), 77);
        CHECK.due("none in 80 characters", error("w1+1@1" + ";n1+1@1".repeat(10) + ";w9+"), 80);
        CHECK.due("the eightieth character", error("w1+1@1" + ";n1+1@1".repeat(10) + ";w9@"), 79);
    }

    // ---- undo and snapshots

    private static void whatTheStateIs() {
        CHECK.sentence("The state consists of everything except the buffer, the saved states and the snapshots.");
        FoleyMixer x = Scene.small();
        for (int setting = 0; setting < 5; setting++) {
            x.set(setting, 5);
        }
        x.keep(1);
        x.remove(true, 0);
        x.keep(0);
        x.write();
        String buffer = Told.buffer(x);
        CHECK.due("words and noises are undone", x.undo() + " " + Told.state(x), "5 5 5 5 5 5 w10 4 12 n8 10 16 0 "
            + "n90 20 30 1 ");
        CHECK.due("the buffer is not", Told.buffer(x), buffer);
        CHECK.due("the snapshots are not", x.goBack(0) + " " + x.goBack(1), "0 1");
        CHECK.due("settings are gone back to", Told.state(x).substring(0, 10), "5 5 5 5 5 ");
        CHECK.due("the buffer is not gone back to", Told.buffer(x), buffer);
        CHECK.due("nor what was saved", x.count(7), 6);
    }

    private static void savedEvenIfNothingChanges() {
        CHECK.sentence("saves the state from before the call ..., even if nothing changes");
        FoleyMixer x = Scene.played("w5+5@5;n5+5@5");
        x.keep(0);
        x.undo();
        CHECK.due("back to nothing", x.count(7) + " " + x.goBack(0) + " " + x.count(7), "0 1 1");
        CHECK.due("shift by 0", x.shift(false, 0, 0) + " " + x.count(7), "5 2");
        CHECK.due("the same loudness", x.loud(true, 0, 5) + " " + x.count(7), "5 3");
        CHECK.due("the same setting", x.set(0, 6) + " " + x.count(7), "6 4");
        CHECK.due("the snapshot that is the state", x.goBack(0) + " " + x.count(7), "1 5");
        String state = Told.state(x);
        for (int left = 4; left >= 1; left--) {
            CHECK.due("undo", x.undo() + " " + Told.state(x), left + " " + state);
        }
        FoleyMixer full = Scene.full();
        for (int i = 0; i < 4; i++) {
            full.undo();
        }
        full.clearBuffer();
        Scene.type(full, "w1+1@1;n1+1@1");
        CHECK.due("a script without room", full.count(1) + " " + full.read() + " " + full.count(7), "8 0 3");
    }

    private static void notSavedWithAnException() {
        CHECK.sentence("saves the state ... if it does not throw an exception");
        Check.Call[] calls = {x -> x.word(-1, 1, 1), x -> x.word(1, 1, 1), x -> x.noise(1, 1, 31, true),
            x -> x.noise(1, 1, 1, true), x -> x.remove(true, 10), x -> x.remove(false, 12), x -> x.shift(true, 10, 1),
            x -> x.shift(true, 0, -1), x -> x.loud(false, 12, 1), x -> x.loud(false, 0, 0), x -> x.set(5, 1),
            x -> x.set(1, 0), FoleyMixer::read, x -> x.goBack(2), x -> x.goBack(1)};
        for (int i = 0; i < calls.length; i++) {
            FoleyMixer x = Scene.full();
            x.undo();
            x.undo();
            x.loud(false, 9, 30);
            x.noise(1, 1, 1, true);
            x.noise(2, 2, 2, false);
            String before = Told.all(x);
            CHECK.due("call " + i, Check.answer(x, calls[i]).startsWith("throws."), true);
            CHECK.due("nothing is saved by call " + i, Told.all(x), before);
            x.undo();
            CHECK.due("undo behind call " + i, x.count(1) + " " + x.count(7), "11 5");
        }
    }

    private static void sixStates() {
        CHECK.sentence("At most 6 states are saved; when one more is saved, the oldest one is dropped.");
        FoleyMixer x = new FoleyMixer();
        for (int i = 0; i < 6; i++) {
            x.word(i, 1, 1);
        }
        CHECK.due("six", x.count(7), 6);
        FoleyMixer seven = new FoleyMixer();
        for (int i = 0; i < 7; i++) {
            seven.word(i, 1, 1);
        }
        CHECK.due("the seventh", seven.count(7), 6);
        for (int left = 5; left >= 0; left--) {
            CHECK.due("of six", x.undo() + " " + x.count(0), left + " " + left);
            CHECK.due("of seven", seven.undo() + " " + seven.count(0), left + " " + (left + 1));
        }
        CHECK.due("six are undone", Check.answer(x, FoleyMixer::undo), "throws.IllegalStateException");
        CHECK.due("the oldest is dropped", Check.answer(seven, FoleyMixer::undo) + " " + seven.count(0),
            "throws.IllegalStateException 1");
        seven.set(0, 1);
        CHECK.due("saved anew", seven.count(7) + " " + seven.undo() + " " + seven.count(9), "1 0 6");
    }

    private static void twoSlots() {
        CHECK.sentence("There are two snapshot slots, which are empty at first.");
        CHECK.refused("slot 0", () -> Scene.typed("w"), STATE, x -> x.goBack(0));
        CHECK.refused("slot 1", () -> Scene.typed("w"), STATE, x -> x.goBack(1));
        CHECK.refused("slot 1 beside slot 0", Scene::small, STATE, x -> x.goBack(1));
        FoleyMixer x = new FoleyMixer();
        x.keep(1);
        CHECK.due("slot 0 beside slot 1", Check.answer(x, y -> y.goBack(0)), "throws.IllegalStateException");
        x.word(1, 1, 1);
        x.keep(0);
        CHECK.due("each has its own", x.goBack(1) + " " + x.goBack(0), "0 1");
        CHECK.range("keep", 0, 1, Scene::small, ARGUMENT, FoleyMixer::keep);
    }

    // ---- exceptions

    private static void nothingChangesWithAnException() {
        CHECK.sentence("A call that throws an exception changes nothing.");
        CHECK.refused("word", Scene::small, ARGUMENT, x -> x.word(0, 1, 31));
        CHECK.refused("word", Scene::full, STATE, x -> x.word(0, 1, 1));
        CHECK.refused("noise", Scene::small, ARGUMENT, x -> x.noise(0, 0, 1, true));
        CHECK.refused("noise", Scene::full, STATE, x -> x.noise(0, 1, 1, true));
        CHECK.refused("remove", Scene::full, INDEX, x -> x.remove(true, 10));
        CHECK.refused("shift", Scene::full, INDEX, x -> x.shift(false, 12, 1));
        CHECK.refused("shift", Scene::full, ARGUMENT, x -> x.shift(false, 11, 12));
        CHECK.refused("loud", Scene::full, INDEX, x -> x.loud(false, 12, 1));
        CHECK.refused("loud", Scene::full, ARGUMENT, x -> x.loud(false, 11, 31));
        CHECK.refused("set", Scene::full, INDEX, x -> x.set(5, 1));
        CHECK.refused("set", Scene::full, ARGUMENT, x -> x.set(2, 6));
        CHECK.refused("append", Scene::small, ARGUMENT, x -> x.append(32));
        CHECK.refused("append", Scene::full, STATE, x -> x.append(33));
        CHECK.refused("read", Scene::small, ARGUMENT, FoleyMixer::read);
        CHECK.refused("charAt", Scene::small, ARGUMENT, x -> x.charAt(-1));
        CHECK.refused("undo", () -> Scene.typed("w5+"), STATE, FoleyMixer::undo);
        CHECK.refused("keep", Scene::small, ARGUMENT, x -> x.keep(2));
        CHECK.refused("goBack", Scene::small, ARGUMENT, x -> x.goBack(-1));
        CHECK.refused("goBack", Scene::small, STATE, x -> x.goBack(1));
        CHECK.refused("wordOf", Scene::small, INDEX, x -> x.wordOf(1, 3));
        CHECK.refused("wordOf", Scene::small, ARGUMENT, x -> x.wordOf(0, 7));
        CHECK.refused("noiseOf", Scene::small, INDEX, x -> x.noiseOf(2, 4));
        CHECK.refused("noiseOf", Scene::small, ARGUMENT, x -> x.noiseOf(1, 7));
        CHECK.refused("second", Scene::small, INDEX, x -> x.second(120, 4));
        CHECK.refused("second", Scene::small, ARGUMENT, x -> x.second(119, 6));
        CHECK.refused("total", Scene::small, ARGUMENT, x -> x.total(2));
        CHECK.refused("count", Scene::small, ARGUMENT, x -> x.count(14));
        CHECK.refused("ifSet", Scene::small, INDEX, x -> x.ifSet(5, 1, 0));
        CHECK.refused("ifSet", Scene::small, ARGUMENT, x -> x.ifSet(1, 0, 0));
        CHECK.refused("ifSet", Scene::small, ARGUMENT, x -> x.ifSet(1, 1, 2));
        CHECK.refused("bestShift", Scene::small, INDEX, x -> x.bestShift(2));
        CHECK.refused("loudestQuiet", Scene::small, INDEX, x -> x.loudestQuiet(2));
    }

    private static void theExceptionListedFirst() {
        CHECK.sentence("If more than one exception applies ..., the one that its throws clause lists first is thrown.");
        CHECK.refused("word", Scene::full, ARGUMENT, x -> x.word(100, 1, 1));
        CHECK.refused("word", Scene::full, ARGUMENT, x -> x.word(0, 0, 1));
        CHECK.refused("word", Scene::full, ARGUMENT, x -> x.word(0, 1, 0));
        CHECK.refused("noise", Scene::full, ARGUMENT, x -> x.noise(-1, 1, 1, true));
        CHECK.refused("noise", Scene::full, ARGUMENT, x -> x.noise(0, 21, 1, true));
        CHECK.refused("noise", Scene::full, ARGUMENT, x -> x.noise(0, 1, 31, false));
        CHECK.refused("shift", Scene::small, INDEX, x -> x.shift(true, 1, 100));
        CHECK.refused("shift", Scene::small, INDEX, x -> x.shift(false, -1, -100));
        CHECK.refused("loud", Scene::small, INDEX, x -> x.loud(true, 1, 0));
        CHECK.refused("loud", Scene::small, INDEX, x -> x.loud(false, 2, 31));
        CHECK.refused("set", Scene::small, INDEX, x -> x.set(-1, -1));
        CHECK.refused("set", Scene::small, INDEX, x -> x.set(5, 21));
        CHECK.refused("append", Scene::full, ARGUMENT, x -> x.append(32));
        CHECK.refused("append", Scene::full, ARGUMENT, x -> x.append(127));
        CHECK.refused("goBack", Scene::small, ARGUMENT, x -> x.goBack(2));
        CHECK.refused("wordOf", Scene::small, INDEX, x -> x.wordOf(1, 7));
        CHECK.refused("noiseOf", Scene::small, INDEX, x -> x.noiseOf(2, -1));
        CHECK.refused("second", Scene::small, INDEX, x -> x.second(120, 6));
        CHECK.refused("second", Scene::small, INDEX, x -> x.second(-1, -1));
        CHECK.refused("ifSet", Scene::small, INDEX, x -> x.ifSet(5, 3, 2));
        CHECK.refused("ifSet", Scene::small, INDEX, x -> x.ifSet(-1, -1, 0));
    }

    private static void none() {
        CHECK.sentence("NONE = -1: There is no such number.");
        CHECK.due("NONE", FoleyMixer.NONE, -1);
        FoleyMixer x = Scene.played("w5+1@30");
        CHECK.due("the first masked second", x.wordOf(0, 4), FoleyMixer.NONE);
        CHECK.due("the strongest noise", x.second(5, 5), FoleyMixer.NONE);
        CHECK.due("the last second", new FoleyMixer().count(4), FoleyMixer.NONE);
        CHECK.due("the noise that masks most", x.count(6), FoleyMixer.NONE);
        CHECK.due("the least ducking", Scene.played("w5+1@1").leastDucking(), FoleyMixer.NONE);
        CHECK.due("a character", x.charAt(0), FoleyMixer.NONE);
    }
}
