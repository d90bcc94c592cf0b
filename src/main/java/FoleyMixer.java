/** The sounds of a radio play: words, noises, ducking, masking and scripts. README.md tells how to use it. */
public final class FoleyMixer {
    public static final int NONE = -1;

    private static final int SECONDS = 120;
    private static final int MOST_WORDS = 10;
    private static final int MOST_NOISES = 12;
    private static final int MOST_SAVED = 6;
    private static final int SLOTS = 2;
    private static final int LONGEST_SHIFT = 99;
    private static final int LONGEST_TRIED_SHIFT = 10;

    // The numbers of a cue. A script tells the first three in this order.
    private static final int START = 0;
    private static final int LENGTH = 1;
    private static final int LOUD = 2;
    private static final int HARD = 3;
    private static final int CUE_NUMBERS = 4;
    private static final int[] LEAST_OF_CUE = {0, 1, 1};
    private static final int[] MOST_OF_CUE = {99, 20, 30};

    private static final int DUCKING = 0;
    private static final int RELEASE = 1;
    private static final int SPILL = 2;
    private static final int MARGIN = 3;
    private static final int MASKED_SECONDS = 4;
    private static final int SETTINGS = 5;
    private static final int[] FIRST_SETTINGS = {6, 2, 1, 2, 0};
    private static final int[] LEAST_SETTINGS = {0, 1, 0, 0, 0};
    private static final int[] MOST_SETTINGS = {20, 20, 5, 10, 10};

    private static final int MOST_CODES = 80;
    private static final int LEAST_CODE = 33;
    private static final int MOST_CODE = 126;
    private static final int WORD_SIGN = 'w';
    private static final int SOFT_SIGN = 'n';
    private static final int HARD_SIGN = 'N';
    private static final int CUE_END = ';';
    // The sign behind the start, the length and the loudness of a cue.
    private static final int[] SIGN_BEHIND = {'+', '@', CUE_END};

    private final Mix mix = new Mix();
    private final Mix trialMix = new Mix();
    private final Play now = mix.play;
    private final Play trial = trialMix.play;
    private final History history = new History();
    private final Play[] snapshots = new Play[SLOTS];
    private final Script script = new Script();
    private final CueReader reader = new CueReader();

    public FoleyMixer() {
    }

    // ---- cues

    public int word(int start, int length, int loud) throws IllegalArgumentException, IllegalStateException {
        checkCue(start, length, loud);
        return addCue(now.words, start, length, loud, 0);
    }

    public int noise(int start, int length, int loud, boolean hard)
            throws IllegalArgumentException, IllegalStateException {
        checkCue(start, length, loud);
        return addCue(now.noises, start, length, loud, hard ? 1 : 0);
    }

    public int remove(boolean isWord, int number) throws IndexOutOfBoundsException {
        Cues cues = now.cuesOf(isWord);
        checkNumber(cues, number);
        history.push(now);
        cues.drop(number);
        return cues.size();
    }

    public int shift(boolean isWord, int number, int by) throws IndexOutOfBoundsException, IllegalArgumentException {
        Cues cues = now.cuesOf(isWord);
        checkNumber(cues, number);
        if (by < -LONGEST_SHIFT || by > LONGEST_SHIFT) {
            throw new IllegalArgumentException("by is out of range");
        }
        int start = cues.numberOf(number, START) + by;
        if (!fitsCue(START, start)) {
            throw new IllegalArgumentException("the start would be out of range");
        }
        history.push(now);
        cues.change(number, START, start);
        return start;
    }

    public int loud(boolean isWord, int number, int loud) throws IndexOutOfBoundsException, IllegalArgumentException {
        Cues cues = now.cuesOf(isWord);
        checkNumber(cues, number);
        if (!fitsCue(LOUD, loud)) {
            throw new IllegalArgumentException("loud is out of range");
        }
        int previous = cues.numberOf(number, LOUD);
        history.push(now);
        cues.change(number, LOUD, loud);
        return previous;
    }

    public int set(int setting, int value) throws IndexOutOfBoundsException, IllegalArgumentException {
        checkSetting(setting, value);
        int previous = now.settingOf(setting);
        history.push(now);
        now.change(setting, value);
        return previous;
    }

    // ---- script text

    public int append(int code) throws IllegalArgumentException, IllegalStateException {
        if (code < LEAST_CODE || code > MOST_CODE) {
            throw new IllegalArgumentException("code is out of range");
        }
        if (script.isFull()) {
            throw new IllegalStateException("the buffer is full");
        }
        script.add(code);
        return script.size();
    }

    public int clearBuffer() {
        int size = script.size();
        script.clear();
        return size;
    }

    public int firstError() {
        return script.errorFor(reader);
    }

    public int read() throws IllegalArgumentException {
        if (script.errorFor(reader) < script.size() || !reader.isComplete()) {
            throw new IllegalArgumentException("the buffer is not a complete script text");
        }
        history.push(now);
        int added = addScriptCues();
        script.clear();
        return added;
    }

    public int write() {
        script.clear();
        int words = writeCues(true);
        if (words < now.words.size()) {
            return words;
        }
        return words + writeCues(false);
    }

    public int charAt(int index) throws IllegalArgumentException {
        if (index < 0) {
            throw new IllegalArgumentException("index is negative");
        }
        return script.codeAt(index);
    }

    // ---- undo and snapshots

    public int undo() throws IllegalStateException {
        if (history.size() == 0) {
            throw new IllegalStateException("no state is saved");
        }
        history.popInto(now);
        return history.size();
    }

    public int keep(int slot) throws IllegalArgumentException {
        if (slot < 0 || slot >= snapshots.length) {
            throw new IllegalArgumentException("no such slot");
        }
        Play snapshot = snapshots[slot];
        if (snapshot == null) {
            snapshot = new Play();
            snapshots[slot] = snapshot;
        }
        snapshot.copyFrom(now);
        return now.words.size();
    }

    public int goBack(int slot) throws IllegalArgumentException, IllegalStateException {
        if (slot < 0 || slot >= snapshots.length) {
            throw new IllegalArgumentException("no such slot");
        }
        Play snapshot = snapshots[slot];
        if (snapshot == null) {
            throw new IllegalStateException("the slot is empty");
        }
        history.push(now);
        now.copyFrom(snapshot);
        return now.words.size();
    }

    // ---- queries; nothing changes

    public int wordOf(int word, int what) throws IndexOutOfBoundsException, IllegalArgumentException {
        checkNumber(now.words, word);
        checkWhat(what, 6);
        if (what <= LOUD) {
            return now.words.numberOf(word, what);
        }
        mix.refresh();
        switch (what) {
            case 3:
                return now.words.numberOf(word, LENGTH) - mix.maskedSecondsOf(word);
            case 4:
                return mix.firstMaskedOf(word);
            case 5:
                return mix.isUnderstood(word) ? 1 : 0;
            default:
                return mix.greatestCoverOf(word);
        }
    }

    public int noiseOf(int noise, int what) throws IndexOutOfBoundsException, IllegalArgumentException {
        checkNumber(now.noises, noise);
        checkWhat(what, 6);
        if (what <= HARD) {
            return now.noises.numberOf(noise, what);
        }
        mix.refresh();
        switch (what) {
            case 4:
                return mix.strengthSumOf(noise);
            case 5:
                return mix.maskingSecondsOf(noise);
            default:
                return mix.duckedSecondsOf(noise);
        }
    }

    public int second(int second, int what) throws IndexOutOfBoundsException, IllegalArgumentException {
        if (second < 0 || second >= SECONDS) {
            throw new IndexOutOfBoundsException("no such second");
        }
        checkWhat(what, 5);
        mix.refresh();
        switch (what) {
            case 0:
                return entry(mix.ducking, second);
            case 1:
                return entry(mix.words, second);
            case 2:
                return entry(mix.noises, second);
            case 3:
                return mix.noiseLevel(second);
            case 4:
                return entry(mix.masked, second);
            default:
                return entry(mix.strongest, second);
        }
    }

    public int total(int way) throws IllegalArgumentException {
        checkWhat(way, 1);
        if (way == 1) {
            return now.words.loudnessByCue() + now.noises.loudnessByCue();
        }
        int sum = 0;
        for (int second = 0; second < SECONDS; second++) {
            sum += now.words.loudnessAt(second) + now.noises.loudnessAt(second);
        }
        return sum;
    }

    public int count(int what) throws IllegalArgumentException {
        checkWhat(what, 13);
        if (what >= 9) {
            return now.settingOf(what - 9);
        }
        mix.refresh();
        switch (what) {
            case 0:
                return now.words.size();
            case 1:
                return now.noises.size();
            case 2:
                return mix.understood();
            case 3:
                return mix.maskedSeconds();
            case 4:
                return mix.lastSound();
            case 5:
                return mix.silentSeconds();
            case 6:
                return mix.greatestMasker();
            case 7:
                return history.size();
            default:
                return script.size();
        }
    }

    // ---- what would be; nothing changes

    public int leastDucking() {
        trial.copyFrom(now);
        for (int value = entry(LEAST_SETTINGS, DUCKING); value <= entry(MOST_SETTINGS, DUCKING); value++) {
            trial.change(DUCKING, value);
            trialMix.refresh();
            if (trialMix.understood() == now.words.all()) {
                return value;
            }
        }
        return NONE;
    }

    public int ifSet(int setting, int value, int what) throws IndexOutOfBoundsException, IllegalArgumentException {
        checkSetting(setting, value);
        checkWhat(what, 1);
        trial.copyFrom(now);
        trial.change(setting, value);
        trialMix.refresh();
        return what == 0 ? trialMix.understood() : trialMix.maskedSeconds();
    }

    public int bestShift(int noise) throws IndexOutOfBoundsException {
        checkNumber(now.noises, noise);
        trial.copyFrom(now);
        int best = 0;
        int fewest = NONE;
        // By 0, 1, -1, 2, -2 and so on: of several with the fewest the first one is the best.
        for (int turn = 0; turn <= 2 * LONGEST_TRIED_SHIFT; turn++) {
            int size = (turn + 1) / 2;
            int by = turn % 2 == 1 ? size : -size;
            int masked = maskedIfShifted(noise, by);
            if (masked != NONE && (fewest == NONE || masked < fewest)) {
                fewest = masked;
                best = by;
            }
        }
        return best + LONGEST_TRIED_SHIFT;
    }

    public int loudestQuiet(int noise) throws IndexOutOfBoundsException {
        checkNumber(now.noises, noise);
        trial.copyFrom(now);
        trial.noises.drop(noise);
        trialMix.refresh();
        int without = trialMix.maskedSeconds();
        trial.copyFrom(now);
        for (int loud = entry(MOST_OF_CUE, LOUD); loud >= entry(LEAST_OF_CUE, LOUD); loud--) {
            trial.noises.change(noise, LOUD, loud);
            trialMix.refresh();
            if (trialMix.maskedSeconds() <= without) {
                return loud;
            }
        }
        return 0;
    }

    public double heard() {
        mix.refresh();
        int seconds = 0;
        for (int word = 0; word < now.words.size(); word++) {
            seconds += now.words.numberOf(word, LENGTH);
        }
        if (seconds == 0) {
            return 1.0;
        }
        return (double) (seconds - mix.maskedSeconds()) / (double) seconds;
    }

    // ---- parts of the calls

    private static int entry(int[] row, int index) {
        return index >= 0 && index < row.length ? row[index] : 0;
    }

    private static void put(int[] row, int index, int value) {
        if (index >= 0 && index < row.length) {
            row[index] = value;
        }
    }

    private static void copyRow(int[] from, int[] to) {
        for (int i = 0; i < from.length && i < to.length; i++) {
            to[i] = from[i];
        }
    }

    private static boolean hasBit(int mask, int bit) {
        return (mask >> bit & 1) != 0;
    }

    private static boolean fitsCue(int field, int value) {
        return value >= entry(LEAST_OF_CUE, field) && value <= entry(MOST_OF_CUE, field);
    }

    private static void checkCue(int start, int length, int loud) {
        if (!fitsCue(START, start) || !fitsCue(LENGTH, length) || !fitsCue(LOUD, loud)) {
            throw new IllegalArgumentException("an argument is out of range");
        }
    }

    private static void checkNumber(Cues cues, int number) {
        if (!cues.has(number)) {
            throw new IndexOutOfBoundsException("no such word or noise");
        }
    }

    private static void checkSetting(int setting, int value) {
        if (setting < 0 || setting >= SETTINGS) {
            throw new IndexOutOfBoundsException("no such setting");
        }
        if (value < entry(LEAST_SETTINGS, setting) || value > entry(MOST_SETTINGS, setting)) {
            throw new IllegalArgumentException("value is out of range");
        }
    }

    private static void checkWhat(int what, int most) {
        if (what < 0 || what > most) {
            throw new IllegalArgumentException("there is no such thing to tell");
        }
    }

    private int addCue(Cues cues, int start, int length, int loud, int hard) {
        if (cues.isFull()) {
            throw new IllegalStateException("there is no room for one more");
        }
        history.push(now);
        cues.add(start, length, loud, hard);
        return cues.size() - 1;
    }

    private int addScriptCues() {
        int added = 0;
        reader.restart();
        for (int i = 0; i <= script.size(); i++) {
            if (i == script.size() || script.codeAt(i) == CUE_END) {
                Cues cues = now.cuesOf(reader.kind() == WORD_SIGN);
                if (cues.isFull()) {
                    return added;
                }
                int hard = reader.kind() == HARD_SIGN ? 1 : 0;
                cues.add(reader.numberOf(START), reader.numberOf(LENGTH), reader.numberOf(LOUD), hard);
                added++;
            }
            reader.take(script.codeAt(i));
        }
        return added;
    }

    private int writeCues(boolean isWord) {
        Cues cues = now.cuesOf(isWord);
        for (int number = 0; number < cues.size(); number++) {
            int sign = isWord ? WORD_SIGN : cues.isHard(number) ? HARD_SIGN : SOFT_SIGN;
            if (!script.addCue(sign, cues, number)) {
                return number;
            }
        }
        return cues.size();
    }

    /** The masked seconds with the noise shifted in the trial, NONE if its start would be out of range. */
    private int maskedIfShifted(int noise, int by) {
        int start = now.noises.numberOf(noise, START) + by;
        if (!fitsCue(START, start)) {
            return NONE;
        }
        trial.noises.change(noise, START, start);
        trialMix.refresh();
        return trialMix.maskedSeconds();
    }

    /** The words, or the noises, of a play by their numbers. */
    private static final class Cues {
        private final int limit;
        private final int[] numbers = new int[MOST_NOISES * CUE_NUMBERS];
        private int size = 0;

        private Cues(int limit) {
            this.limit = limit;
        }

        private int size() {
            return size;
        }

        private boolean isFull() {
            return size >= limit;
        }

        private boolean has(int number) {
            return number >= 0 && number < size;
        }

        /** All numbers as a bit mask. */
        private int all() {
            return (1 << size) - 1;
        }

        private int numberOf(int number, int field) {
            int place = number * CUE_NUMBERS + field;
            return place >= 0 && place < numbers.length ? numbers[place] : 0;
        }

        private boolean isHard(int number) {
            return numberOf(number, HARD) == 1;
        }

        private int endOf(int number) {
            return numberOf(number, START) + numberOf(number, LENGTH);
        }

        private boolean sounds(int number, int second) {
            return second >= numberOf(number, START) && second < endOf(number);
        }

        private void change(int number, int field, int value) {
            put(numbers, number * CUE_NUMBERS + field, value);
        }

        private void add(int start, int length, int loud, int hard) {
            change(size, START, start);
            change(size, LENGTH, length);
            change(size, LOUD, loud);
            change(size, HARD, hard);
            size++;
        }

        private void drop(int number) {
            if (!has(number)) {
                return;
            }
            for (int place = number * CUE_NUMBERS; place + CUE_NUMBERS < numbers.length; place++) {
                put(numbers, place, entry(numbers, place + CUE_NUMBERS));
            }
            size--;
        }

        private void copyFrom(Cues other) {
            copyRow(other.numbers, numbers);
            size = other.size;
        }

        private int loudnessAt(int second) {
            int sum = 0;
            for (int number = 0; number < size; number++) {
                if (sounds(number, second)) {
                    sum += numberOf(number, LOUD);
                }
            }
            return sum;
        }

        private int loudnessByCue() {
            int sum = 0;
            for (int number = 0; number < size; number++) {
                sum += numberOf(number, LENGTH) * numberOf(number, LOUD);
            }
            return sum;
        }

        /** Puts into the row, for each second, a bit mask of those that sound in it. */
        private void markSounding(int[] row) {
            for (int second = 0; second < row.length; second++) {
                row[second] = 0;
            }
            for (int number = 0; number < size; number++) {
                int end = endOf(number);
                for (int second = numberOf(number, START); second < end; second++) {
                    put(row, second, entry(row, second) | 1 << number);
                }
            }
        }
    }

    /** The state: all that undo and the snapshots bring back. */
    private static final class Play {
        private final Cues words = new Cues(MOST_WORDS);
        private final Cues noises = new Cues(MOST_NOISES);
        private final int[] settings = FIRST_SETTINGS.clone();

        private Cues cuesOf(boolean isWord) {
            return isWord ? words : noises;
        }

        private int settingOf(int setting) {
            return setting >= 0 && setting < settings.length ? settings[setting] : 0;
        }

        private void change(int setting, int value) {
            put(settings, setting, value);
        }

        private void copyFrom(Play other) {
            words.copyFrom(other.words);
            noises.copyFrom(other.noises);
            copyRow(other.settings, settings);
        }
    }

    /** The saved states, the oldest one first. A place's play is made once and filled again and again. */
    private static final class History {
        private final Play[] plays = new Play[MOST_SAVED];
        private int size = 0;

        private int size() {
            return size;
        }

        private void push(Play play) {
            if (size >= plays.length) {
                dropOldest();
            }
            if (size < 0 || size >= plays.length) {
                return;
            }
            Play saved = plays[size];
            if (saved == null) {
                saved = new Play();
                plays[size] = saved;
            }
            saved.copyFrom(play);
            size++;
        }

        // The oldest play moves behind all others, so that its rows can be filled again.
        private void dropOldest() {
            for (int i = 1; i < plays.length; i++) {
                Play older = plays[i - 1];
                plays[i - 1] = plays[i];
                plays[i] = older;
            }
            size--;
        }

        private void popInto(Play play) {
            int last = size - 1;
            Play saved = last >= 0 && last < plays.length ? plays[last] : null;
            if (saved != null) {
                play.copyFrom(saved);
                size = last;
            }
        }
    }

    /** A play and what it sounds like, second by second: as the play was at the last refresh. */
    private static final class Mix {
        private final Play play = new Play();
        private final int[] words = new int[SECONDS];
        private final int[] noises = new int[SECONDS];
        private final int[] ducking = new int[SECONDS];
        private final int[] strongest = new int[SECONDS];
        private final int[] greatestStrength = new int[SECONDS];
        private final int[] strengthCount = new int[SECONDS];
        private final int[] masked = new int[SECONDS];

        private void refresh() {
            play.words.markSounding(words);
            play.noises.markSounding(noises);
            duck();
            for (int second = 0; second < SECONDS; second++) {
                weighNoises(second);
                markMasked(second);
            }
        }

        private void duck() {
            int before = 0;
            for (int second = 0; second < SECONDS; second++) {
                if (entry(words, second) != 0) {
                    before = play.settingOf(DUCKING);
                } else {
                    before = Math.max(0, before - play.settingOf(RELEASE));
                }
                put(ducking, second, before);
            }
        }

        private int strengthOf(int noise, int second) {
            int loud = play.noises.numberOf(noise, LOUD);
            return play.noises.isHard(noise) ? loud : Math.max(0, loud - entry(ducking, second));
        }

        private void weighNoises(int second) {
            int sounding = entry(noises, second);
            int first = NONE;
            int greatest = 0;
            int strong = 0;
            for (int noise = 0; noise < play.noises.size() && sounding != 0; noise++) {
                int strength = hasBit(sounding, noise) ? strengthOf(noise, second) : 0;
                if (strength > 0) {
                    strong++;
                }
                if (strength > greatest) {
                    greatest = strength;
                    first = noise;
                }
            }
            put(strongest, second, first);
            put(greatestStrength, second, greatest);
            put(strengthCount, second, strong);
        }

        private void markMasked(int second) {
            int mask = 0;
            int sounding = entry(words, second);
            for (int word = 0; word < play.words.size() && sounding != 0; word++) {
                if (hasBit(sounding, word)
                        && play.words.numberOf(word, LOUD) < coverOf(word, second) + play.settingOf(MARGIN)) {
                    mask |= 1 << word;
                }
            }
            put(masked, second, mask);
        }

        private int coverOf(int word, int second) {
            int greatest = entry(greatestStrength, second);
            int strong = entry(strengthCount, second);
            int sounding = entry(words, second);
            for (int other = 0; other < play.words.size(); other++) {
                if (other != word && hasBit(sounding, other)) {
                    greatest = Math.max(greatest, play.words.numberOf(other, LOUD));
                    strong++;
                }
            }
            return level(greatest, strong);
        }

        /** The level of some strengths of which so many are greater than 0. */
        private int level(int greatest, int strong) {
            return strong > 0 ? greatest + play.settingOf(SPILL) * (strong - 1) : 0;
        }

        private int noiseLevel(int second) {
            return level(entry(greatestStrength, second), entry(strengthCount, second));
        }

        private int maskedSecondsOf(int word) {
            int seconds = 0;
            for (int second = 0; second < SECONDS; second++) {
                if (hasBit(entry(masked, second), word)) {
                    seconds++;
                }
            }
            return seconds;
        }

        private int maskedSeconds() {
            int seconds = 0;
            for (int second = 0; second < SECONDS; second++) {
                seconds += Integer.bitCount(entry(masked, second));
            }
            return seconds;
        }

        private int firstMaskedOf(int word) {
            for (int second = 0; second < SECONDS; second++) {
                if (hasBit(entry(masked, second), word)) {
                    return second;
                }
            }
            return NONE;
        }

        private boolean isUnderstood(int word) {
            return maskedSecondsOf(word) <= play.settingOf(MASKED_SECONDS);
        }

        private int understood() {
            int mask = 0;
            for (int word = 0; word < play.words.size(); word++) {
                if (isUnderstood(word)) {
                    mask |= 1 << word;
                }
            }
            return mask;
        }

        private int greatestCoverOf(int word) {
            int greatest = 0;
            int end = play.words.endOf(word);
            for (int second = play.words.numberOf(word, START); second < end; second++) {
                greatest = Math.max(greatest, coverOf(word, second));
            }
            return greatest;
        }

        private int strengthSumOf(int noise) {
            int sum = 0;
            int end = play.noises.endOf(noise);
            for (int second = play.noises.numberOf(noise, START); second < end; second++) {
                sum += strengthOf(noise, second);
            }
            return sum;
        }

        private int maskingSecondsOf(int noise) {
            int seconds = 0;
            int end = play.noises.endOf(noise);
            for (int second = play.noises.numberOf(noise, START); second < end; second++) {
                if (entry(masked, second) != 0) {
                    seconds++;
                }
            }
            return seconds;
        }

        private int duckedSecondsOf(int noise) {
            int seconds = 0;
            int end = play.noises.endOf(noise);
            for (int second = play.noises.numberOf(noise, START); second < end; second++) {
                if (strengthOf(noise, second) < play.noises.numberOf(noise, LOUD)) {
                    seconds++;
                }
            }
            return seconds;
        }

        private boolean isSilent(int second) {
            return (entry(words, second) | entry(noises, second)) == 0;
        }

        private int lastSound() {
            for (int second = SECONDS - 1; second >= 0; second--) {
                if (!isSilent(second)) {
                    return second;
                }
            }
            return NONE;
        }

        private int silentSeconds() {
            int last = lastSound();
            int silent = 0;
            for (int second = 0; second < last; second++) {
                if (isSilent(second)) {
                    silent++;
                }
            }
            return silent;
        }

        private int greatestMasker() {
            int best = NONE;
            int most = 0;
            for (int noise = 0; noise < play.noises.size(); noise++) {
                int seconds = 0;
                for (int second = 0; second < SECONDS; second++) {
                    if (entry(strongest, second) == noise && entry(masked, second) != 0) {
                        seconds++;
                    }
                }
                if (seconds > most) {
                    most = seconds;
                    best = noise;
                }
            }
            return best;
        }
    }

    /** The buffer. */
    private static final class Script {
        private final int[] codes = new int[MOST_CODES];
        private int size = 0;

        private int size() {
            return size;
        }

        private boolean isFull() {
            return size >= codes.length;
        }

        private void clear() {
            size = 0;
        }

        private void add(int code) {
            if (size >= 0 && size < codes.length) {
                codes[size] = code;
                size++;
            }
        }

        private int codeAt(int index) {
            return index >= 0 && index < size ? entry(codes, index) : NONE;
        }

        /** The index of the first code that the reader does not take, the size if it takes all. */
        private int errorFor(CueReader reader) {
            reader.restart();
            for (int i = 0; i < size; i++) {
                if (!reader.take(codeAt(i))) {
                    return i;
                }
            }
            return size;
        }

        /** Adds the whole cue, or nothing and answers false if there is no room for it. */
        private boolean addCue(int sign, Cues cues, int number) {
            int before = size;
            int signs = before == 0 ? 3 : 4;
            int digits = 0;
            for (int field = START; field <= LOUD; field++) {
                digits += cues.numberOf(number, field) >= 10 ? 2 : 1;
            }
            if (before + signs + digits > codes.length) {
                return false;
            }
            if (before > 0) {
                add(CUE_END);
            }
            add(sign);
            for (int field = START; field <= LOUD; field++) {
                addNumber(cues.numberOf(number, field));
                if (field < LOUD) {
                    add(entry(SIGN_BEHIND, field));
                }
            }
            return true;
        }

        private void addNumber(int value) {
            if (value >= 10) {
                add('0' + value / 10);
            }
            add('0' + value % 10);
        }
    }

    /** Takes a script code by code, and holds the numbers of the cue that it is in. */
    private static final class CueReader {
        private static final int KIND = LOUD + 1;

        private final int[] numbers = new int[KIND];
        private int part = KIND;
        private int kind = NONE;

        private void restart() {
            part = KIND;
        }

        private int kind() {
            return kind;
        }

        private int numberOf(int field) {
            return entry(numbers, field);
        }

        /** True if what has been taken is a whole script text. */
        private boolean isComplete() {
            return part == LOUD && numberOf(LOUD) != NONE;
        }

        private boolean take(int code) {
            if (part == KIND) {
                return takeKind(code);
            }
            if (code >= '0' && code <= '9') {
                return takeDigit(code - '0');
            }
            return takeSign(code);
        }

        private boolean takeKind(int code) {
            if (code != WORD_SIGN && code != SOFT_SIGN && code != HARD_SIGN) {
                return false;
            }
            kind = code;
            beginPart(START);
            return true;
        }

        private void beginPart(int next) {
            part = next;
            put(numbers, next, NONE);
        }

        private boolean takeDigit(int digit) {
            int before = numberOf(part);
            int value = before == NONE ? digit : before * 10 + digit;
            // Behind a single 0 nothing may stand: it would be a leading zero.
            if (before == 0 || !fitsCue(part, value)) {
                return false;
            }
            put(numbers, part, value);
            return true;
        }

        private boolean takeSign(int code) {
            if (numberOf(part) == NONE || code != entry(SIGN_BEHIND, part)) {
                return false;
            }
            beginPart(part + 1);
            return true;
        }
    }
}
