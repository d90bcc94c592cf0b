/** Promises 14 to 16: undo, keep, goBack. */
final class UndoTest {
    private static final Check CHECK = new Check("UndoTest");
    private static final Class<?> ARGUMENT = IllegalArgumentException.class;
    private static final Class<?> STATE = IllegalStateException.class;

    public static void main(String[] args) {
        undoing();
        sixStates();
        eachUndoableCall();
        callsThatSaveNothing();
        keeping();
        goingBack();
        CHECK.end();
    }

    private static void undoing() {
        FoleyMixer x = new FoleyMixer();
        CHECK.due("nothing saved", Check.answer(x, FoleyMixer::undo), "throws.IllegalStateException");
        x.word(1, 2, 3);
        x.set(0, 9);
        x.loud(true, 0, 30);
        CHECK.due("first undo", x.undo() + " " + Told.state(x), "2 9 2 1 2 0 w1 2 3 ");
        CHECK.due("second undo", x.undo() + " " + Told.state(x), "1 6 2 1 2 0 w1 2 3 ");
        x.noise(4, 5, 6, true);
        CHECK.due("third undo", x.undo() + " " + Told.state(x), "1 6 2 1 2 0 w1 2 3 ");
        CHECK.due("last undo", x.undo() + " " + Told.state(x), "0 6 2 1 2 0 ");
        CHECK.due("none left", Check.answer(x, FoleyMixer::undo), "throws.IllegalStateException");
        CHECK.refused("undo", () -> Scene.typed("abc"), STATE, FoleyMixer::undo);
    }

    private static void sixStates() {
        FoleyMixer x = new FoleyMixer();
        for (int value = 1; value <= 20; value++) {
            x.set(0, value);
            CHECK.due("saved", x.count(7), Math.min(value, 6));
        }
        for (int left = 5; left >= 0; left--) {
            CHECK.due("undo", x.undo() + " " + x.count(9), left + " " + (14 + left));
        }
        CHECK.due("the older ones are dropped", Check.answer(x, FoleyMixer::undo), "throws.IllegalStateException");
    }

    private static void eachUndoableCall() {
        Check.Call[] calls = {
            x -> x.word(1, 1, 1), x -> x.noise(1, 1, 1, true), x -> x.remove(true, 0), x -> x.remove(false, 1),
            x -> x.shift(true, 0, 5), x -> x.shift(false, 0, 0), x -> x.loud(true, 0, 20), x -> x.loud(false, 1, 30),
            x -> x.set(4, 7), x -> x.set(4, 1), x -> x.goBack(0), x -> {
                x.clearBuffer();
                Scene.type(x, "n1+1@1;w1+1@1");
                return x.read();
            }};
        String before = Told.state(Scene.small());
        for (int i = 0; i < calls.length; i++) {
            FoleyMixer x = Scene.small();
            int saved = x.count(7);
            calls[i].on(x);
            CHECK.due("call " + i + ": saved", x.count(7), saved + 1);
            CHECK.due("call " + i + ": undo", x.undo() + " " + Told.state(x), saved + " " + before);
        }
    }

    private static void callsThatSaveNothing() {
        Check.Call[] calls = {
            x -> x.append('w'), FoleyMixer::clearBuffer, FoleyMixer::firstError, FoleyMixer::write, x -> x.charAt(1),
            x -> x.keep(0), x -> x.keep(1), x -> x.wordOf(0, 6), x -> x.noiseOf(1, 6), x -> x.second(10, 4),
            x -> x.total(0), x -> x.total(1), x -> x.count(6), FoleyMixer::leastDucking, x -> x.ifSet(1, 20, 1),
            x -> x.bestShift(0), x -> x.loudestQuiet(0), FoleyMixer::heard};
        String before = Told.state(Scene.small());
        for (int i = 0; i < calls.length; i++) {
            FoleyMixer x = Scene.small();
            int saved = x.count(7);
            calls[i].on(x);
            CHECK.due("quiet call " + i, x.count(7) + " " + Told.state(x), saved + " " + before);
        }
    }

    private static void keeping() {
        FoleyMixer x = new FoleyMixer();
        CHECK.due("keep nothing", x.keep(0), 0);
        x.word(1, 2, 3);
        x.noise(1, 2, 3, false);
        CHECK.due("keep a word", x.keep(1), 1);
        x.word(4, 5, 6);
        CHECK.due("keep in place of", x.keep(0), 2);
        x.undo();
        x.undo();
        x.undo();
        CHECK.due("snapshots are not undone", x.goBack(0) + " " + x.goBack(1), "2 1");
        for (int slot : new int[] {-1, 2, Integer.MIN_VALUE, Integer.MAX_VALUE}) {
            CHECK.refused("keep " + slot, Scene::small, ARGUMENT, y -> y.keep(slot));
            CHECK.refused("goBack " + slot, Scene::small, ARGUMENT, y -> y.goBack(slot));
        }
        CHECK.refused("goBack to an empty slot", Scene::small, STATE, y -> y.goBack(1));
        CHECK.refused("goBack of a new object", FoleyMixer::new, STATE, y -> y.goBack(0));
    }

    private static void goingBack() {
        FoleyMixer x = Scene.small();
        String later = Told.state(x);
        CHECK.due("goBack", x.goBack(0) + " " + Told.state(x), "1 6 2 1 2 0 w10 4 12 n8 10 16 0 ");
        CHECK.due("the buffer stays", Told.buffer(x), "w5+3@9;n");
        x.remove(true, 0);
        x.set(3, 9);
        CHECK.due("the snapshot stays", x.goBack(0) + " " + Told.state(x), "1 6 2 1 2 0 w10 4 12 n8 10 16 0 ");
        CHECK.due("undo", x.undo() + " " + Told.state(x), "5 6 2 1 9 0 n8 10 16 0 ");
        x.undo();
        x.undo();
        CHECK.due("undo the first one", x.undo() + " " + Told.state(x), "2 " + later);
    }
}
