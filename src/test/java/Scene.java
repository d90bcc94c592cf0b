/** Mixers to begin a test with. */
final class Scene {
    private Scene() {
    }

    static void type(FoleyMixer mixer, String text) {
        for (int i = 0; i < text.length(); i++) {
            mixer.append(text.charAt(i));
        }
    }

    static FoleyMixer typed(String text) {
        FoleyMixer mixer = new FoleyMixer();
        type(mixer, text);
        return mixer;
    }

    static FoleyMixer played(String script) {
        FoleyMixer mixer = typed(script);
        mixer.read();
        return mixer;
    }

    /** One word, two noises, a setting changed, slot 0 kept, a text in the buffer. */
    static FoleyMixer small() {
        FoleyMixer mixer = new FoleyMixer();
        mixer.word(10, 4, 12);
        mixer.noise(8, 10, 16, false);
        mixer.keep(0);
        mixer.set(4, 1);
        mixer.noise(90, 20, 30, true);
        type(mixer, "w5+3@9;n");
        return mixer;
    }

    /** All words and all noises that there may be, and a full buffer. */
    static FoleyMixer full() {
        FoleyMixer mixer = new FoleyMixer();
        for (int i = 0; i < 10; i++) {
            mixer.word(i * 10, 5, 10 + i);
        }
        for (int i = 0; i < 12; i++) {
            mixer.noise(i * 8, 4, 5 + i, i % 2 == 0);
        }
        type(mixer, "w0+1@1;".repeat(11) + "w0+");
        return mixer;
    }
}
