/** Everything that a mixer holds, as one text. */
final class Told {
    private Told() {
    }

    static String state(FoleyMixer mixer) {
        StringBuilder text = new StringBuilder();
        for (int what = 9; what <= 13; what++) {
            text.append(mixer.count(what)).append(' ');
        }
        for (int word = 0; word < mixer.count(0); word++) {
            text.append('w');
            for (int what = 0; what <= 2; what++) {
                text.append(mixer.wordOf(word, what)).append(' ');
            }
        }
        for (int noise = 0; noise < mixer.count(1); noise++) {
            text.append('n');
            for (int what = 0; what <= 3; what++) {
                text.append(mixer.noiseOf(noise, what)).append(' ');
            }
        }
        return text.toString();
    }

    static String buffer(FoleyMixer mixer) {
        StringBuilder text = new StringBuilder();
        for (int i = 0; mixer.charAt(i) != FoleyMixer.NONE; i++) {
            text.append((char) mixer.charAt(i));
        }
        return text.toString();
    }

    /** What wordOf tells of a word, from 0 to 6. */
    static String word(FoleyMixer mixer, int word) {
        return row(0, 6, what -> mixer.wordOf(word, what));
    }

    /** What noiseOf tells of a noise, from 0 to 6. */
    static String noise(FoleyMixer mixer, int noise) {
        return row(0, 6, what -> mixer.noiseOf(noise, what));
    }

    static String seconds(FoleyMixer mixer, int from, int to, int what) {
        return row(from, to, second -> mixer.second(second, what));
    }

    private static String row(int from, int to, java.util.function.IntUnaryOperator entry) {
        StringBuilder text = new StringBuilder();
        for (int i = from; i <= to; i++) {
            text.append(entry.applyAsInt(i)).append(' ');
        }
        return text.toString().trim();
    }

    static String all(FoleyMixer mixer) {
        return state(mixer) + "saved " + mixer.count(7) + " buffer " + mixer.count(8) + " " + buffer(mixer);
    }

    /** Uses the mixer up: undoes everything and goes back to both slots. */
    static String savedAndKept(FoleyMixer mixer) {
        StringBuilder text = new StringBuilder();
        // Not until none is left: an undo that takes none away is to fail, not to go on for ever.
        for (int turn = 0; turn < 9 && mixer.count(7) > 0; turn++) {
            text.append(mixer.undo()).append(": ").append(state(mixer)).append('\n');
        }
        for (int slot = 0; slot <= 1; slot++) {
            int at = slot;
            text.append(Check.answer(mixer, x -> x.goBack(at))).append(": ").append(state(mixer)).append('\n');
        }
        return text.toString();
    }
}
