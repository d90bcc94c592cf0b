/** Each sentence of promises 8 to 13 that names a boundary, in the document's order. */
final class ScriptBoundaryTest {
    private static final Check CHECK = new Check("ScriptBoundaryTest");
    private static final Class<?> ARGUMENT = IllegalArgumentException.class;
    private static final Class<?> STATE = IllegalStateException.class;
    // 76 characters: eleven cues without an error, with ";" between them.
    private static final String ELEVEN = "w1+1@1" + ";n1+1@1".repeat(10);

    public static void main(String[] args) {
        appendReturns();
        appendOutOfRange();
        appendWithoutRoom();
        clearBufferReturns();
        firstErrorReturns();
        firstErrorWithoutError();
        firstErrorOfAnIncompleteText();
        readUpToTheFirstWithoutRoom();
        readClearsTheBuffer();
        readAsOneCall();
        readReturns();
        readOfAnIncompleteText();
        writeInPlaceOfWhatItHolds();
        writeInOrder();
        writeWholeCues();
        writeReturns();
        charAtReturns();
        charAtBehindTheEnd();
        charAtOfANegativeIndex();
        CHECK.end();
    }

    private static void appendReturns() {
        CHECK.sentence("Promise 8: Returns the new length of the buffer.");
        FoleyMixer x = new FoleyMixer();
        for (int length = 1; length <= 80; length++) {
            CHECK.due("append", x.append(46 + length), length);
            CHECK.due("the character", x.charAt(length - 1), 46 + length);
        }
        x.clearBuffer();
        CHECK.due("when it is cleared", x.append('w'), 1);
    }

    private static void appendOutOfRange() {
        CHECK.sentence("Promise 8: Throws IllegalArgumentException if code is out of range");
        CHECK.range("code, empty", 33, 126, FoleyMixer::new, ARGUMENT, FoleyMixer::append);
        CHECK.range("code, of a text", 33, 126, Scene::small, ARGUMENT, FoleyMixer::append);
    }

    private static void appendWithoutRoom() {
        CHECK.sentence("Promise 8: Throws IllegalStateException if the buffer holds 80 characters");
        CHECK.refused("the eighty-first", Scene::full, STATE, x -> x.append(33));
        CHECK.due("the eightieth", Scene.typed("~".repeat(79)).append(33), 80);
        CHECK.refused("behind a written text of 80", () -> {
            FoleyMixer x = eightyAndOne();
            x.write();
            return x;
        }, STATE, x -> x.append(';'));
    }

    private static void clearBufferReturns() {
        CHECK.sentence("Promise 9: Returns the length that it had.");
        CHECK.due("of an empty one", new FoleyMixer().clearBuffer(), 0);
        CHECK.due("of one", Scene.typed("x").clearBuffer(), 1);
        FoleyMixer full = Scene.full();
        CHECK.due("of 80", full.clearBuffer(), 80);
        CHECK.due("cleared", full.clearBuffer() + " " + full.count(8) + " " + full.charAt(0), "0 0 -1");
        CHECK.due("the state stays", full.count(0) + " " + full.count(1) + " " + full.count(7), "10 12 6");
    }

    private static void firstErrorReturns() {
        CHECK.sentence("Promise 10: Returns its index");
        CHECK.due("the first character", Scene.typed("x").firstError(), 0);
        CHECK.due("the first one of two", Scene.typed("w1x;").firstError(), 2);
        CHECK.due("the eightieth", Scene.typed(ELEVEN + ";w1;").firstError(), 79);
        CHECK.due("the first of 80", Scene.typed("!".repeat(80)).firstError(), 0);
    }

    private static void firstErrorWithoutError() {
        CHECK.sentence("Promise 10: the length of the buffer if there is no error");
        CHECK.due("of an empty one", new FoleyMixer().firstError(), 0);
        CHECK.due("of one cue", Scene.typed("w1+1@1").firstError(), 6);
        CHECK.due("of 80", Scene.typed("w10+10@10" + ";n1+1@1".repeat(9) + ";n1+11@1").firstError(), 80);
    }

    private static void firstErrorOfAnIncompleteText() {
        CHECK.sentence("Promise 10: (also if the text is not complete)");
        String text = "w10+10@10;N99+20@30;";
        for (int length = 1; length <= text.length(); length++) {
            CHECK.due("up to " + length, Scene.typed(text.substring(0, length)).firstError(), length);
        }
    }

    private static void readUpToTheFirstWithoutRoom() {
        CHECK.sentence("Promise 11: up to the first one for which there is no room");
        FoleyMixer x = new FoleyMixer();
        Scene.type(x, "w1+1@1" + ";w1+1@1".repeat(9) + ";n1+1@1");
        CHECK.due("ten words", x.read() + " " + x.count(0) + " " + x.count(1), "11 10 1");
        Scene.type(x, "n2+1@1;w2+1@1;n3+1@1");
        CHECK.due("the eleventh word", x.read() + " " + x.count(0) + " " + x.count(1), "1 10 2");
        Scene.type(x, "N1+1@1" + ";N1+1@1".repeat(9) + ";n5+1@1");
        CHECK.due("the thirteenth noise", x.read() + " " + x.count(1) + " " + x.noiseOf(11, 3), "10 12 1");
        x.remove(true, 9);
        Scene.type(x, "n1+1@1;w1+1@1");
        CHECK.due("no room for the first one, but for the second", x.read() + " " + x.count(0), "0 9");
        Scene.type(x, "w7+1@1;w8+1@1;w9+1@1");
        CHECK.due("room for one of three", x.read() + " " + x.count(0) + " " + x.wordOf(9, 0), "1 10 7");
    }

    private static void readClearsTheBuffer() {
        CHECK.sentence("Promise 11: and clears the buffer");
        FoleyMixer x = Scene.full();
        CHECK.due("a text that is refused stays", Check.answer(x, FoleyMixer::read) + " " + x.count(8),
            "throws.IllegalArgumentException 80");
        x.clearBuffer();
        Scene.type(x, "w1+1@1");
        CHECK.due("without room", x.read() + " " + x.count(8) + " " + x.charAt(0), "0 0 -1");
        FoleyMixer y = Scene.typed("w10+10@10" + ";n1+1@1".repeat(9) + ";n1+11@1");
        CHECK.due("80 characters", y.count(8) + " " + y.read() + " " + y.count(8), "80 11 0");
    }

    private static void readAsOneCall() {
        CHECK.sentence("Promise 11: Undoable, as one call.");
        FoleyMixer x = Scene.small();
        int saved = x.count(7);
        String state = Told.state(x);
        x.clearBuffer();
        Scene.type(x, ELEVEN);
        CHECK.due("eleven cues", x.read() + " " + x.count(7), "11 " + (saved + 1));
        CHECK.due("undone", x.undo() + " " + Told.state(x), saved + " " + state);
        CHECK.due("the buffer is not", x.count(8), 0);
    }

    private static void readReturns() {
        CHECK.sentence("Promise 11: Returns how many cues are added.");
        CHECK.due("one", Scene.typed("w1+1@1").read(), 1);
        CHECK.due("eleven", Scene.typed(ELEVEN).read(), 11);
        FoleyMixer x = Scene.full();
        x.clearBuffer();
        Scene.type(x, "n0+1@1;w0+1@1");
        CHECK.due("none", x.read(), 0);
        CHECK.due("the least and the greatest numbers", Told.state(Scene.played("w0+1@1;n0+1@1;N99+20@30")),
            "6 2 1 2 0 w0 1 1 n0 1 1 0 n99 20 30 1 ");
    }

    private static void refusedText(String text) {
        CHECK.refused("read " + text, () -> {
            FoleyMixer x = Scene.small();
            x.clearBuffer();
            Scene.type(x, text);
            return x;
        }, ARGUMENT, FoleyMixer::read);
    }

    private static void readOfAnIncompleteText() {
        CHECK.sentence("Promise 11: Throws IllegalArgumentException if the buffer is not a complete script text");
        String text = "w10+10@10;N99+20@30;";
        for (int length = 0; length <= text.length(); length++) {
            boolean complete = length == 8 || length == 9 || length == 18 || length == 19;
            String part = text.substring(0, length);
            if (complete) {
                CHECK.due("read " + part, Scene.typed(part).read(), length < 10 ? 1 : 2);
            } else {
                refusedText(part);
            }
        }
        for (String wrong : new String[] {"x", "w1+1@1x", "w1+1@1;x", "w00+1@1", "w100+1@1", "w1+0@1", "w1+21@1",
            "w1+1@0", "w1+1@31", "W1+1@1", ELEVEN + ";w1+", ";" + ELEVEN, "w1+1@1;;n1+1@1"}) {
            refusedText(wrong);
        }
        CHECK.refused("an error behind the first cue without room", () -> {
            FoleyMixer x = Scene.full();
            x.clearBuffer();
            Scene.type(x, "w1+1@1;x");
            return x;
        }, ARGUMENT, FoleyMixer::read);
    }

    /** Nine words that take 80 characters together, and a noise that has no room behind them. */
    private static FoleyMixer eightyAndOne() {
        FoleyMixer x = new FoleyMixer();
        for (int i = 0; i < 9; i++) {
            x.word(i, 10, 10);
        }
        x.noise(1, 1, 1, true);
        return x;
    }

    private static void writeInPlaceOfWhatItHolds() {
        CHECK.sentence("Promise 12: into the buffer, in place of what it holds");
        FoleyMixer none = Scene.typed("~".repeat(80));
        CHECK.due("nothing in place of 80", none.write() + " " + none.count(8) + " " + none.charAt(0), "0 0 -1");
        FoleyMixer x = Scene.full();
        x.undo();
        int saved = x.count(7);
        x.write();
        String once = Told.buffer(x);
        CHECK.due("twice is as once", x.write() + " " + Told.buffer(x), "9 " + once);
        CHECK.due("nothing is saved", x.count(7), saved);
    }

    private static void writeInOrder() {
        CHECK.sentence("Promise 12: the words by their numbers, then the noises by their numbers");
        FoleyMixer x = Scene.played("N99+20@30;w99+20@30;n0+1@1;w0+1@1;w10+10@10");
        CHECK.due("write", x.write() + " " + Told.buffer(x),
            "5 w99+20@30;w0+1@1;w10+10@10;N99+20@30;n0+1@1");
        FoleyMixer noises = Scene.played("n9+9@9;N10+9@10");
        CHECK.due("without words", noises.write() + " " + Told.buffer(noises), "2 n9+9@9;N10+9@10");
        FoleyMixer words = Scene.played("w9+19@9");
        CHECK.due("without noises", words.write() + " " + Told.buffer(words), "1 w9+19@9");
    }

    private static void writeWholeCues() {
        CHECK.sentence("Promise 12: only as many whole cues from the first one on as 80 characters can hold");
        FoleyMixer x = eightyAndOne();
        CHECK.due("nine words of 80 characters", x.write() + " " + x.count(8), "9 80");
        x.shift(true, 8, 2);
        CHECK.due("a word that would be of 81", x.write() + " " + x.count(8), "8 71");
        x.remove(true, 8);
        CHECK.due("then a noise has room", x.write() + " " + x.count(8), "9 78");
        x.shift(false, 0, 9);
        x.loud(false, 0, 10);
        CHECK.due("a noise that ends at 80", x.write() + " " + x.count(8) + " " + (char) x.charAt(79), "9 80 0");
        x.noise(1, 1, 1, false);
        CHECK.due("and none behind it", x.write() + " " + x.count(8), "9 80");
        x.loud(false, 0, 9);
        CHECK.due("79 characters have no room either", x.write() + " " + x.count(8), "9 79");
        x.loud(false, 0, 10);
        x.remove(false, 1);
        x.remove(false, 0);
        x.noise(10, 10, 10, true);
        x.noise(1, 1, 1, false);
        CHECK.due("a noise that would be of 81, a shorter one behind", x.write() + " " + x.count(8), "8 71");
        CHECK.due("what is written can be read", x.read() + " " + x.count(0), "2 10");
        for (String cue : new String[] {"w9+10@10", "n10+9@10", "N10+10@9"}) {
            FoleyMixer nines = Scene.played("w10+10@1" + ";w10+10@1".repeat(7));
            Scene.type(nines, cue);
            nines.read();
            CHECK.due("a 9 is one character, up to 80: " + cue, nines.write() + " " + nines.count(8), "9 80");
        }
    }

    private static void writeReturns() {
        CHECK.sentence("Promise 12: Returns how many cues are written.");
        CHECK.due("none", new FoleyMixer().write(), 0);
        CHECK.due("one", Scene.played("n1+1@1").write(), 1);
        FoleyMixer x = Scene.played(ELEVEN);
        CHECK.due("as many as have room", x.write() + " " + Told.buffer(x), "11 " + ELEVEN);
        x.noise(1, 1, 1, false);
        CHECK.due("twelve have none", x.write() + " " + x.count(8), "11 76");
    }

    private static void charAtReturns() {
        CHECK.sentence("Promise 13: Returns its code");
        FoleyMixer x = Scene.typed("!" + "w".repeat(78) + "~");
        CHECK.due("the first, the next, the last but one, the last",
            x.charAt(0) + " " + x.charAt(1) + " " + x.charAt(78) + " " + x.charAt(79), "33 119 119 126");
    }

    private static void charAtBehindTheEnd() {
        CHECK.sentence("Promise 13: NONE if the buffer is not so long");
        CHECK.due("of an empty one", new FoleyMixer().charAt(0), -1);
        FoleyMixer x = Scene.typed("ab");
        CHECK.due("just behind", x.charAt(1) + " " + x.charAt(2), "98 -1");
        CHECK.due("far behind", x.charAt(79) + " " + x.charAt(80) + " " + x.charAt(Integer.MAX_VALUE), "-1 -1 -1");
        CHECK.due("behind 80", Scene.full().charAt(80), -1);
        x.clearBuffer();
        CHECK.due("what is cleared", x.charAt(0) + " " + x.charAt(1), "-1 -1");
        x.append('c');
        CHECK.due("what is written over", x.charAt(0) + " " + x.charAt(1), "99 -1");
    }

    private static void charAtOfANegativeIndex() {
        CHECK.sentence("Promise 13: Throws IllegalArgumentException if index is negative");
        CHECK.refused("-1", Scene::full, ARGUMENT, x -> x.charAt(-1));
        CHECK.refused("-1 of an empty one", FoleyMixer::new, ARGUMENT, x -> x.charAt(-1));
        CHECK.refused("the least int", Scene::full, ARGUMENT, x -> x.charAt(Integer.MIN_VALUE));
    }
}
