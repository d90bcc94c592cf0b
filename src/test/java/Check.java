/** Compares answers with what is due, prints each one that is not, and ends the test. */
final class Check {
    private final String test;
    private int wrong = 0;
    private int right = 0;

    Check(String test) {
        this.test = test;
    }

    /** A call on a mixer, as one of its answers. */
    interface Call {
        Object on(FoleyMixer mixer);
    }

    /** The call's answer as a text, or throws. and the name of what it throws. */
    static String answer(FoleyMixer mixer, Call call) {
        try {
            return String.valueOf(call.on(mixer));
        } catch (RuntimeException e) {
            return "throws." + e.getClass().getSimpleName();
        }
    }

    void due(String what, Object got, Object want) {
        if (String.valueOf(got).equals(String.valueOf(want))) {
            right++;
        } else {
            wrong++;
            System.out.println(test + ": " + what + " answered " + got + ", due is " + want);
        }
    }

    /** The call is due to throw this exception and to change nothing of the scene. */
    void refused(String what, java.util.function.Supplier<FoleyMixer> scene, Class<?> exception, Call call) {
        FoleyMixer mixer = scene.get();
        String before = Told.all(mixer);
        due(what, answer(mixer, call), "throws." + exception.getSimpleName());
        due(what + ", then everything", Told.all(mixer), before);
        FoleyMixer untouched = scene.get();
        due(what + ", then what was saved and kept", Told.savedAndKept(mixer), Told.savedAndKept(untouched));
    }

    void end() {
        System.out.println(test + ": " + right + " answers as due, " + wrong + " not");
        if (wrong != 0) {
            System.exit(1);
        }
    }
}
