/** Compares answers with what is due, prints each one that is not, and ends the test. */
final class Check {
    private final String test;
    private int wrong = 0;
    private int right = 0;
    private String sentence = "";

    Check(String test) {
        this.test = test;
    }

    /** The sentence of the document that the next checks are about; it is printed with each that fails. */
    void sentence(String quoted) {
        sentence = " [" + quoted + "]";
    }

    /** A call on a mixer, as one of its answers. */
    interface Call {
        Object on(FoleyMixer mixer);
    }

    /** A call with one argument that the test chooses. */
    interface ArgumentCall {
        Object with(FoleyMixer mixer, int value);
    }

    /** The call's answer as a text, or throws. and the name of what it throws. */
    static String answer(FoleyMixer mixer, Call call) {
        try {
            return String.valueOf(call.on(mixer));
        } catch (RuntimeException e) {
            return "throws." + e.getClass().getSimpleName();
        }
    }

    void due(String what, Object got, Object want) {
        if (String.valueOf(got).equals(String.valueOf(want))) {
            right++;
        } else {
            wrong++;
            System.out.println(test + sentence + ": " + what + " answered " + got + ", due is " + want);
        }
    }

    /** The call is due to throw this exception and to change nothing of the scene. */
    void refused(String what, java.util.function.Supplier<FoleyMixer> scene, Class<?> exception, Call call) {
        FoleyMixer mixer = scene.get();
        String before = Told.all(mixer);
        due(what, answer(mixer, call), "throws." + exception.getSimpleName());
        due(what + ", then everything", Told.all(mixer), before);
        FoleyMixer untouched = scene.get();
        due(what + ", then what was saved and kept", Told.savedAndKept(mixer), Told.savedAndKept(untouched));
    }

    /** The argument is due to be taken from least to most, and refused one beyond each and at the ends of int. */
    void range(String what, int least, int most, java.util.function.Supplier<FoleyMixer> scene, Class<?> exception,
            ArgumentCall call) {
        for (int value : new int[] {least, most}) {
            String answer = answer(scene.get(), x -> call.with(x, value));
            due(what + " of " + value + " is taken", answer.startsWith("throws.") ? answer : "taken", "taken");
        }
        for (int value : new int[] {least - 1, most + 1, Integer.MIN_VALUE, Integer.MAX_VALUE}) {
            refused(what + " of " + value, scene, exception, x -> call.with(x, value));
        }
    }

    void end() {
        System.out.println(test + ": " + right + " answers as due, " + wrong + " not");
        if (wrong != 0) {
            System.exit(1);
        }
    }
}
