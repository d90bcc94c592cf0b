import java.io.IOException;
import java.nio.file.Files;
import java.nio.file.Path;
import java.util.ArrayList;
import java.util.List;

/** The calls that README.md shows, in their order, each with the answer that stands behind it. */
final class ReadmeTest {
    private static final Check CHECK = new Check("ReadmeTest");
    private static final FoleyMixer MIXER = new FoleyMixer();
    private static final List<String> TOLD = new ArrayList<>();

    public static void main(String[] args) throws IOException {
        for (String line : Files.readAllLines(Path.of("README.md"))) {
            if (line.startsWith("mixer.")) {
                TOLD.add(line.replaceAll(" +// ([^:]*): .*", " $1"));
            }
        }
        answer("mixer.word(10, 4, 12);", x -> x.word(10, 4, 12));
        answer("mixer.noise(8, 10, 16, false);", x -> x.noise(8, 10, 16, false));
        answer("mixer.wordOf(0, 3);", x -> x.wordOf(0, 3));
        answer("mixer.second(10, 0);", x -> x.second(10, 0));
        answer("mixer.leastDucking();", FoleyMixer::leastDucking);
        answer("mixer.ifSet(0, 5, 1);", x -> x.ifSet(0, 5, 1));
        answer("mixer.set(0, 5);", x -> x.set(0, 5));
        answer("mixer.heard();", FoleyMixer::heard);
        answer("mixer.bestShift(0);", x -> x.bestShift(0));
        answer("mixer.undo();", FoleyMixer::undo);
        answer("mixer.write();", FoleyMixer::write);
        CHECK.due("the script", Told.buffer(MIXER), "w10+4@12;n8+10@16");
        answer("mixer.charAt(0);", x -> x.charAt(0));
        answer("mixer.clearBuffer();", FoleyMixer::clearBuffer);
        CHECK.due("calls that are told and not made", TOLD, List.of());
        CHECK.end();
    }

    /** The next line that the text tells is due to be this call and its answer. */
    private static void answer(String line, Check.Call call) {
        String told = TOLD.isEmpty() ? "no more calls" : TOLD.remove(0);
        CHECK.due("README.md", told, line + " " + Check.answer(MIXER, call));
    }
}
