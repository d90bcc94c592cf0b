/** Each sentence of promises 14 to 16 that names a boundary, in the document's order. */
final class UndoBoundaryTest {
    private static final Check CHECK = new Check("UndoBoundaryTest");
    private static final Class<?> ARGUMENT = IllegalArgumentException.class;
    private static final Class<?> STATE = IllegalStateException.class;

    public static void main(String[] args) {
        undoRestores();
        undoReturns();
        undoWithoutSavedState();
        keepReplaces();
        keepReturns();
        keepWithoutSlot();
        goBackStaysInItsSlot();
        goBackIsUndoable();
        goBackReturns();
        goBackWithoutSlot();
        goBackToAnEmptySlot();
        CHECK.end();
    }

    private static void undoRestores() {
        CHECK.sentence("Promise 14: Restores the state that was saved last, and removes it from the saved states.");
        FoleyMixer x = Scene.full();
        String full = Told.state(x);
        x.remove(true, 0);
        x.remove(false, 11);
        x.set(4, 10);
        x.undo();
        x.undo();
        CHECK.due("the noise and the word", x.undo() + " " + Told.state(x), "3 " + full);
        CHECK.due("all numbers are taken again", Check.answer(x, y -> y.word(1, 1, 1)), "throws.IllegalStateException");
        FoleyMixer y = Scene.played("w1+1@1");
        CHECK.due("back to a new object", y.undo() + " " + Told.all(y), "0 " + Told.all(new FoleyMixer()));
        y.noise(1, 2, 3, true);
        y.shift(false, 0, 9);
        CHECK.due("the one that was saved last", y.undo() + " " + y.noiseOf(0, 0), "1 1");
    }

    private static void undoReturns() {
        CHECK.sentence("Promise 14: Returns the number of saved states that are left.");
        FoleyMixer x = Scene.full();
        for (int left = 5; left >= 0; left--) {
            CHECK.due("left", x.undo() + " " + x.count(7) + " " + x.count(1), left + " " + left + " " + (6 + left));
        }
    }

    private static void undoWithoutSavedState() {
        CHECK.sentence("Promise 14: Throws IllegalStateException if no state is saved");
        CHECK.refused("a new object", FoleyMixer::new, STATE, FoleyMixer::undo);
        CHECK.refused("when all is undone", () -> {
            FoleyMixer x = Scene.small();
            for (int saved = x.count(7); saved > 0; saved--) {
                x.undo();
            }
            return x;
        }, STATE, FoleyMixer::undo);
        CHECK.refused("calls that save nothing", () -> {
            FoleyMixer x = Scene.typed("w1+1@");
            x.keep(0);
            x.write();
            x.leastDucking();
            return x;
        }, STATE, FoleyMixer::undo);
    }

    private static void keepReplaces() {
        CHECK.sentence("Promise 15: Takes a snapshot of the state, which replaces the one in the slot.");
        FoleyMixer x = Scene.full();
        String full = Told.state(x);
        x.keep(0);
        x.keep(1);
        x.remove(true, 9);
        x.set(2, 5);
        String less = Told.state(x);
        x.keep(1);
        x.loud(true, 0, 1);
        x.goBack(0);
        CHECK.due("slot 0", Told.state(x), full);
        x.goBack(1);
        CHECK.due("slot 1, replaced", Told.state(x), less);
        FoleyMixer small = Scene.small();
        int saved = small.count(7);
        small.keep(0);
        CHECK.due("nothing is saved by keep", small.count(7), saved);
    }

    private static void keepReturns() {
        CHECK.sentence("Promise 15: Returns the number of words.");
        CHECK.due("none", new FoleyMixer().keep(0), 0);
        CHECK.due("none, but noises", Scene.played("n1+1@1").keep(1), 0);
        CHECK.due("ten", Scene.full().keep(1), 10);
    }

    private static void keepWithoutSlot() {
        CHECK.sentence("Promise 15: Throws IllegalArgumentException if there is no such slot");
        CHECK.range("slot", 0, 1, FoleyMixer::new, ARGUMENT, FoleyMixer::keep);
        CHECK.range("slot", 0, 1, Scene::full, ARGUMENT, FoleyMixer::keep);
    }

    private static void goBackStaysInItsSlot() {
        CHECK.sentence("Promise 16: Restores a snapshot, which stays in its slot.");
        FoleyMixer x = Scene.small();
        for (int turn = 0; turn < 8; turn++) {
            x.goBack(0);
            CHECK.due("turn " + turn, Told.state(x), "6 2 1 2 0 w10 4 12 n8 10 16 0 ");
            x.loud(true, 0, 1 + turn);
            x.remove(false, 0);
            x.set(0, turn);
        }
        CHECK.due("the other slot stays empty", Check.answer(x, y -> y.goBack(1)), "throws.IllegalStateException");
    }

    private static void goBackIsUndoable() {
        CHECK.sentence("Promise 16: Undoable.");
        FoleyMixer x = Scene.full();
        String full = Told.state(x);
        FoleyMixer none = new FoleyMixer();
        none.keep(1);
        CHECK.due("to the same", none.goBack(1) + " " + none.count(7) + " " + none.undo(), "0 1 0");
        x.keep(0);
        x.remove(true, 5);
        String less = Told.state(x);
        x.goBack(0);
        CHECK.due("to more words", x.undo() + " " + Told.state(x), "5 " + less);
        CHECK.due("and before", x.undo() + " " + Told.state(x), "4 " + full);
    }

    private static void goBackReturns() {
        CHECK.sentence("Promise 16: Returns the number of words after the call.");
        FoleyMixer x = new FoleyMixer();
        x.keep(0);
        for (int i = 0; i < 10; i++) {
            x.word(i, 1, 1);
        }
        x.keep(1);
        CHECK.due("from ten to none", x.goBack(0) + " " + x.count(0), "0 0");
        CHECK.due("from none to ten", x.goBack(1) + " " + x.count(0), "10 10");
    }

    private static void goBackWithoutSlot() {
        CHECK.sentence("Promise 16: Throws IllegalArgumentException if there is no such slot");
        CHECK.range("slot", 0, 1, () -> {
            FoleyMixer x = Scene.small();
            x.keep(1);
            return x;
        }, ARGUMENT, FoleyMixer::goBack);
        CHECK.refused("-1 of a new object", FoleyMixer::new, ARGUMENT, x -> x.goBack(-1));
        CHECK.refused("2 of a new object", FoleyMixer::new, ARGUMENT, x -> x.goBack(2));
    }

    private static void goBackToAnEmptySlot() {
        CHECK.sentence("Promise 16: Throws IllegalStateException if the slot is empty");
        CHECK.refused("0", FoleyMixer::new, STATE, x -> x.goBack(0));
        CHECK.refused("1", Scene::small, STATE, x -> x.goBack(1));
        FoleyMixer x = new FoleyMixer();
        x.keep(0);
        CHECK.due("a snapshot of nothing is one", x.goBack(0), 0);
    }
}
