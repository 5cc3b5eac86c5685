/** Tunes written with letters: fed as bytes, read to a row of things, judged, played and written again. */
public final class AbcForms {
    public static final int BAD = -1, NONE = -2, FULL = -3;

    private static final int TAPE_MOST = 2400;
    private static final int FEED_BYTES = 20;
    private static final int TEXT_MOST = 2000;
    private static final int THINGS_MOST = 400;
    private static final int MEASURES_MOST = 300;
    private static final int PLAYED_MOST = 1000;
    private static final int TITLES_MOST = 3;
    private static final int VOICES = 3;
    private static final int CHORD_MOST = 12;
    private static final int GRACES_MOST = 8;
    private static final int SLURS_MOST = 4;
    private static final int WORD_MOST = 20;
    private static final int MARK_MOST = 12;
    private static final int LENGTH_MOST = 64;
    private static final int SIGNS_MOST = 7;
    private static final int PITCH_MOST = 127;
    private static final int BARS_MOST = 16;
    /** Two signs, a letter, six octaves, five bytes of length: and room to spare. */
    private static final int WRITTEN_MOST = 24;

    private static final long WHOLE = 1290240L;
    private static final long TICKS_MOST = 8L * WHOLE;

    private static final int FAULT_BYTE = 1, FAULT_MANY = 2, FAULT_KEY = 3, FAULT_RANGE = 4, FAULT_ORDER = 5, FAULT_OPEN = 6;

    private static final int NOTE = 0, REST = 1, HIDDEN = 2, BARS = 3, BAR = 4, GRACE = 5, KEY = 6, METER = 7, UNIT = 8;

    /** What thing() tells, by number; the last two are for written() alone. */
    private static final int SORT = 0, OF_VOICE = 1, OF_MEASURE = 2, VALUE = 3, LETTER = 4, OCTAVE = 5, SIGN = 6,
        SIGN_WRITTEN = 7, TIE = 8, NOTES = 9, INDEX = 10, ORNAMENTS = 11, WORDS = 12, SLURS_BEGIN = 13, SLURS_CLOSE = 14,
        ENDING = 15, IN_TEXT = 16, UNIT_THERE = 17, SIGN_NEEDED = 18, CELLS = 19;

    private static final int HEAD_NUMBER = 0, HEAD_TITLES = 1, HEAD_METER = 2, HEAD_LOWER = 3, HEAD_UNIT = 4, HEAD_SPEED = 5,
        HEAD_SIGNS = 6, HEAD_THINGS = 7, HEAD_VOICE = 8, HEAD_RULE = 9, HEADS = 10;

    /** What may begin at a byte of music. */
    private static final int FORM_NONE = 0, FORM_NOTE = 1, FORM_CHORD = 2, FORM_REST = 3, FORM_BARS = 4,
        FORM_BAR = 5, FORM_CHANGE = 6, FORM_GRACES = 7, FORM_TUPLET = 8, FORM_SLUR = 9, FORM_BROKEN = 10,
        FORM_ORNAMENT = 11, FORM_WORD = 12;

    private static final String NOTE_BYTES = "^_=ABCDEFGabcdefg";
    private static final String LETTER_BYTES = "CDEFGABcdefgab";
    private static final String ORNAMENT_BYTES = ".~HTMPuv";

    /** What the bars between two measures tell, in one number. */
    private static final int START_BIT = 1, BACK_BIT = 2, STOP_BIT = 4, ENDING_SHIFT = 3;

    private static final int LETTERS = 7;
    private static final int LOWEST_OCTAVE = -2;
    private static final int MARKS = 84;
    private static final int[] LETTER_PITCH = {0, 2, 4, 5, 7, 9, 11};
    /** Where each letter (C first) stands in the row of sharps F C G D A E B. */
    private static final int[] SHARP_ORDER = {1, 3, 5, 0, 2, 4, 6};

    private final Text text;
    private final Tune tune;
    private final Heads heads;
    private final Reader reader;
    private final Writer writer;
    private byte[] tape;
    private int tapeCount;
    private boolean tuneStands;
    private int faultPlace;

    public AbcForms(int rule) {
        int nearest = Math.max(0, Math.min(1, rule));
        tape = new byte[TAPE_MOST];
        text = new Text(new byte[TAPE_MOST]);
        tune = new Tune(nearest);
        Fields fields = new Fields(text);
        heads = new Heads(text, fields, tune);
        reader = new Reader(text, fields, tune);
        writer = new Writer();
        tapeCount = 0;
        tuneStands = false;
        faultPlace = NONE;
    }

    public int feed(int a, int b, int c, int d, int e) {
        if (tapeCount + FEED_BYTES > TAPE_MOST) {
            return FULL;
        }
        putNumber(a);
        putNumber(b);
        putNumber(c);
        putNumber(d);
        putNumber(e);
        return tapeCount;
    }

    private void putNumber(int number) {
        for (int shift = 24; shift >= 0; shift -= 8) {
            if (tapeCount >= 0 && tapeCount < tape.length) {
                tape[tapeCount] = (byte) (number >> shift);
                tapeCount++;
            }
        }
    }

    public int end(int n) {
        if (n < 0 || n > FEED_BYTES || tapeCount < FEED_BYTES) {
            return BAD;
        }
        tapeCount -= FEED_BYTES - n;
        return tapeCount;
    }

    public int read() {
        byte[] emptied = text.bytes;
        text.take(tape, tapeCount);
        tape = emptied;
        tapeCount = 0;
        tune.clear();
        text.checkBytes();
        heads.readHeads();
        reader.readBody();
        tuneStands = text.fault == 0;
        if (!tuneStands) {
            faultPlace = text.faultPlace;
            return -10 - text.fault;
        }
        faultPlace = NONE;
        tune.findPlayed();
        return tune.things.count;
    }

    public int place() {
        return faultPlace;
    }

    public int head(int what) {
        return tuneStands ? tune.headOf(what) : BAD;
    }

    public int title(int i, int k) {
        if (!tuneStands || i < 0 || i >= tune.titleCount || i >= TITLES_MOST) {
            return BAD;
        }
        int size = tune.titleSize[i];
        if (k == -1) {
            return size;
        }
        return k >= 0 && k < size ? text.byteAt(tune.titleFirst[i] + k) : BAD;
    }

    public int thing(int i, int what) {
        if (!hasThing(i) || what < 0 || what > IN_TEXT) {
            return BAD;
        }
        return tune.things.cell(i, what);
    }

    public long time(int i) {
        return hasThing(i) ? tune.things.ticksOf(i) : BAD;
    }

    public long start(int i) {
        return hasThing(i) ? tune.things.beginOf(i) : BAD;
    }

    private boolean hasThing(int i) {
        return tuneStands && i >= 0 && i < tune.things.count;
    }

    public int measures(int voice) {
        return hasVoice(voice) ? tune.voiceOf(voice).measureCount : BAD;
    }

    public int full(int voice, int measure) {
        if (!hasMeasure(voice, measure)) {
            return BAD;
        }
        return tune.voiceOf(voice).isFull(measure) ? 1 : 0;
    }

    public long length(int voice, int measure) {
        return hasMeasure(voice, measure) ? tune.voiceOf(voice).ticksIn(measure) : BAD;
    }

    private boolean hasVoice(int voice) {
        return tuneStands && voice >= 1 && voice <= VOICES;
    }

    private boolean hasMeasure(int voice, int measure) {
        return hasVoice(voice) && measure >= 0 && measure < tune.voiceOf(voice).measureCount;
    }

    public int played(int i) {
        if (!tuneStands) {
            return BAD;
        }
        if (i == -1) {
            return tune.playedCount;
        }
        return i >= 0 && i < tune.playedCount && i < tune.playedRow.length ? tune.playedRow[i] : BAD;
    }

    public int written(int i, int k) {
        if (!hasThing(i) || tune.things.cell(i, SORT) != NOTE || k < -1) {
            return BAD;
        }
        if (!writer.write(tune.things, i)) {
            return BAD;
        }
        return k == -1 ? writer.count : writer.byteAt(k);
    }

    /** The bytes that are read, with the line at hand, a cursor in it, and the first fault that was met. */
    private static final class Text {
        byte[] bytes;
        int count;
        int at;
        int lineStart;
        /** Where the part of the line begins that is passed over. */
        int lineStop;
        int nextLine;
        int fault;
        int faultPlace;

        Text(byte[] room) {
            bytes = room;
        }

        void take(byte[] fresh, int size) {
            bytes = fresh;
            count = Math.max(0, Math.min(size, fresh.length));
            at = 0;
            lineStart = 0;
            lineStop = 0;
            nextLine = 0;
            fault = 0;
            faultPlace = 0;
        }

        /** Only the first fault counts. */
        void fail(int which, int where) {
            if (fault == 0) {
                fault = which;
                faultPlace = where;
            }
        }

        int byteAt(int i) {
            return i >= 0 && i < count && i < bytes.length ? bytes[i] & 255 : BAD;
        }

        void checkBytes() {
            if (count > TEXT_MOST) {
                fail(FAULT_MANY, TEXT_MOST);
                return;
            }
            boolean passed = false;
            for (int i = 0; i < count; i++) {
                int b = byteAt(i);
                if (b == 10) {
                    passed = false;
                } else if (b == '%') {
                    passed = true;
                } else if (!passed && (b < 32 || b > 126)) {
                    fail(FAULT_BYTE, i);
                    return;
                }
            }
        }

        /** Goes on to the next line; false at the text's end, which is then like a line without anything. */
        boolean openLine() {
            lineStart = Math.min(nextLine, count);
            at = lineStart;
            int stop = lineStart;
            while (stop < count && byteAt(stop) != 10) {
                stop++;
            }
            boolean there = lineStart < count;
            nextLine = stop + 1;
            int cut = lineStart;
            while (cut < stop && byteAt(cut) != '%') {
                cut++;
            }
            while (cut > lineStart && byteAt(cut - 1) == ' ') {
                cut--;
            }
            if (cut > lineStart && byteAt(cut - 1) == '\\') {
                cut--;
            }
            lineStop = cut;
            return there;
        }

        /** The byte so far ahead of the cursor in the line at hand; less than 0 where it has none. */
        int peek(int ahead) {
            int i = at + ahead;
            return i >= 0 && i < lineStop && i < bytes.length ? bytes[i] & 255 : BAD;
        }

        void skipBlanks() {
            while (at < lineStop && peek(0) == ' ') {
                at++;
            }
        }

        boolean digitHere() {
            int b = peek(0);
            return b >= '0' && b <= '9';
        }

        /** The letter of a line that begins with a letter and a colon, else less than 0. */
        int fieldLetter() {
            int b = peek(0);
            boolean letter = b >= 'A' && b <= 'Z' || b >= 'a' && b <= 'z';
            return letter && peek(1) == ':' ? b : BAD;
        }

        /** A number from 1 to the greatest one, a power of two if that is asked; a fault and 0 if it is not there. */
        int number(int greatest, boolean power) {
            int first = at;
            int value = 0;
            while (at < lineStop && at < bytes.length && bytes[at] >= '0' && bytes[at] <= '9') {
                value = Math.min(1000000, value * 10 + bytes[at] - '0');
                at++;
            }
            if (value < 1 || value > greatest || power && (value & (value - 1)) != 0) {
                fail(FAULT_BYTE, first);
                return 0;
            }
            return value;
        }

        boolean takeWord(String word) {
            int size = word.length();
            if (at < 0 || size > lineStop - at || lineStop > bytes.length) {
                return false;
            }
            for (int i = 0; i < size; i++) {
                if (bytes[at + i] != word.charAt(i)) {
                    return false;
                }
            }
            at += size;
            return true;
        }

        void mustStop() {
            if (at < lineStop) {
                fail(FAULT_BYTE, at);
            }
        }
    }

    /** What a meter, a unit or a key tells, read at the text's cursor. */
    private static final class Fields {
        final Text text;
        int number;
        int lower;
        int unit;
        int signs;

        Fields(Text text) {
            this.text = text;
        }

        void readMeter() {
            setMeter(0, 0);
            if (text.takeWord("none")) {
                return;
            }
            if (text.takeWord("C|")) {
                setMeter(2, 2);
                return;
            }
            if (text.takeWord("C")) {
                setMeter(4, 4);
                return;
            }
            number = text.number(32, false);
            if (text.fault != 0) {
                return;
            }
            if (text.peek(0) != '/') {
                text.fail(FAULT_BYTE, text.at);
                return;
            }
            text.at++;
            lower = text.number(32, true);
        }

        private void setMeter(int newNumber, int newLower) {
            number = newNumber;
            lower = newLower;
        }

        void readUnit() {
            if (text.peek(0) != '1') {
                text.fail(FAULT_BYTE, text.at);
                return;
            }
            text.at++;
            if (text.peek(0) != '/') {
                text.fail(FAULT_BYTE, text.at);
                return;
            }
            text.at++;
            unit = text.number(64, true);
        }

        void readKey() {
            int first = text.at;
            signs = 0;
            if (text.takeWord("none")) {
                return;
            }
            int letter = text.peek(0);
            if (letter < 'A' || letter > 'G') {
                text.fail(FAULT_BYTE, first);
                return;
            }
            signs = "FCGDAEB".indexOf((char) letter) - 1;
            text.at++;
            if (text.takeWord("#")) {
                signs += 7;
            } else if (text.takeWord("b")) {
                signs -= 7;
            }
            signs += readMode();
            if (Math.abs(signs) > SIGNS_MOST) {
                text.fail(FAULT_KEY, first);
            }
        }

        /** How many signs a mode adds; the long words come first, for one of them begins with the short one. */
        private int readMode() {
            if (text.takeWord("maj") || text.takeWord("ion")) {
                return 0;
            }
            if (text.takeWord("dor")) {
                return -2;
            }
            if (text.takeWord("phr")) {
                return -4;
            }
            if (text.takeWord("lyd")) {
                return 1;
            }
            if (text.takeWord("mix")) {
                return -1;
            }
            if (text.takeWord("loc")) {
                return -5;
            }
            return text.takeWord("min") || text.takeWord("aeo") || text.takeWord("m") ? -3 : 0;
        }
    }

    /** Reads the heads in their order. */
    private static final class Heads {
        final Text text;
        final Fields fields;
        final Tune tune;
        boolean meterTold;
        boolean unitTold;
        boolean speedTold;

        Heads(Text text, Fields fields, Tune tune) {
            this.text = text;
            this.fields = fields;
            this.tune = tune;
        }

        void readHeads() {
            meterTold = false;
            unitTold = false;
            speedTold = false;
            int letter = 0;
            for (int lines = 0; lines <= TEXT_MOST && text.fault == 0 && letter != 'K'; lines++) {
                text.openLine();
                letter = text.fieldLetter();
                if (!mayCome(letter)) {
                    text.fail(FAULT_BYTE, text.lineStart);
                    return;
                }
                text.at += 2;
                text.skipBlanks();
                readHead(letter);
                text.mustStop();
            }
            if (!unitTold) {
                boolean small = tune.head[HEAD_METER] > 0 && 4 * tune.head[HEAD_METER] < 3 * tune.head[HEAD_LOWER];
                tune.head[HEAD_UNIT] = small ? 16 : 8;
            }
        }

        private boolean mayCome(int letter) {
            boolean numbered = tune.head[HEAD_NUMBER] > 0;
            boolean titled = tune.titleCount > 0;
            switch (letter) {
                case 'X':
                    return !numbered;
                case 'T':
                    return numbered && tune.titleCount < TITLES_MOST && !meterTold && !unitTold && !speedTold;
                case 'M':
                    return titled && !meterTold;
                case 'L':
                    return titled && !unitTold;
                case 'Q':
                    return titled && !speedTold;
                case 'K':
                    return titled;
                default:
                    return false;
            }
        }

        private void readHead(int letter) {
            if (letter == 'X') {
                tune.head[HEAD_NUMBER] = text.number(9999, false);
            } else if (letter == 'T') {
                tune.addTitle(text.at, text.lineStop - text.at);
                text.at = text.lineStop;
            } else if (letter == 'M') {
                fields.readMeter();
                tune.head[HEAD_METER] = fields.number;
                tune.head[HEAD_LOWER] = fields.lower;
                meterTold = true;
            } else if (letter == 'L') {
                fields.readUnit();
                tune.head[HEAD_UNIT] = fields.unit;
                unitTold = true;
            } else if (letter == 'Q') {
                tune.head[HEAD_SPEED] = text.number(999, false);
                speedTold = true;
            } else if (letter == 'K') {
                fields.readKey();
                tune.head[HEAD_SIGNS] = fields.signs;
            }
        }
    }

    /** What was read: heads, titles, things, voices and the measures as they are played. */
    private static final class Tune {
        final int rule;
        final int[] head;
        final int[] titleFirst;
        final int[] titleSize;
        final Things things;
        final Voice[] voices;
        final int[] gaps;
        final int[] playedRow;
        int titleCount;
        int playedCount;

        Tune(int rule) {
            this.rule = rule;
            head = new int[HEADS];
            titleFirst = new int[TITLES_MOST];
            titleSize = new int[TITLES_MOST];
            things = new Things();
            voices = new Voice[VOICES];
            for (int i = 0; i < VOICES; i++) {
                voices[i] = new Voice();
            }
            gaps = new int[MEASURES_MOST + 1];
            playedRow = new int[PLAYED_MOST];
        }

        void clear() {
            for (int i = 0; i < HEADS; i++) {
                head[i] = 0;
            }
            for (int i = 0; i < gaps.length; i++) {
                gaps[i] = 0;
            }
            titleCount = 0;
            playedCount = 0;
            things.count = 0;
        }

        /** A number that is no voice's is taken for the first, so that there always is one. */
        Voice voiceOf(int number) {
            return voices[number >= 1 && number <= VOICES ? number - 1 : 0];
        }

        int headOf(int what) {
            if (what == HEAD_TITLES) {
                return titleCount;
            }
            if (what == HEAD_THINGS) {
                return things.count;
            }
            if (what == HEAD_RULE) {
                return rule;
            }
            return what >= 0 && what < HEADS ? head[what] : BAD;
        }

        void addTitle(int first, int size) {
            if (titleCount >= 0 && titleCount < TITLES_MOST) {
                titleFirst[titleCount] = first;
                titleSize[titleCount] = size;
                titleCount++;
            }
        }

        /** A bar of the first voice tells something of the gap ahead of the measure that comes next. */
        void tellGap(int gap, int barSort, int ending) {
            if (gap >= 0 && gap < gaps.length) {
                gaps[gap] = Player.withBar(gaps[gap], barSort, ending);
            }
        }

        void findPlayed() {
            playedCount = Player.play(gaps, voiceOf(1).measureCount, playedRow);
        }
    }

    /** The row of things: cells by number, times and beginnings. */
    private static final class Things {
        final int[] cells;
        final long[] ticks;
        final long[] begins;
        int count;

        Things() {
            cells = new int[THINGS_MOST * CELLS];
            ticks = new long[THINGS_MOST];
            begins = new long[THINGS_MOST];
        }

        /** The number of the new thing, or less than 0 if there is no room. */
        int add(int sort, int inText) {
            if (count < 0 || count >= THINGS_MOST) {
                return BAD;
            }
            int i = count;
            count++;
            for (int what = 0; what < CELLS; what++) {
                cells[i * CELLS + what] = 0;
            }
            cells[i * CELLS + SORT] = sort;
            cells[i * CELLS + IN_TEXT] = inText;
            ticks[i] = 0;
            begins[i] = 0;
            return i;
        }

        void put(int i, int what, int value) {
            if (i >= 0 && i < count && i < THINGS_MOST && what >= 0 && what < CELLS) {
                cells[i * CELLS + what] = value;
            }
        }

        int cell(int i, int what) {
            return i >= 0 && i < count && i < THINGS_MOST && what >= 0 && what < CELLS ? cells[i * CELLS + what] : 0;
        }

        void setTicks(int i, long value) {
            if (i >= 0 && i < count && i < THINGS_MOST) {
                ticks[i] = value;
            }
        }

        long ticksOf(int i) {
            return i >= 0 && i < count && i < THINGS_MOST ? ticks[i] : 0;
        }

        void setBegin(int i, long value) {
            if (i >= 0 && i < count && i < THINGS_MOST) {
                begins[i] = value;
            }
        }

        long beginOf(int i) {
            return i >= 0 && i < count && i < THINGS_MOST ? begins[i] : 0;
        }
    }

    /** What a voice has of its own while it is read, and its measures. */
    private static final class Voice {
        final long[] lengths;
        final long[] meters;
        /** Signs written since the latest bar, as sign + 3; 0 is none. */
        final int[] marks;
        boolean marked;
        int measureCount;
        boolean open;
        long now;
        int signs;
        int meterNumber;
        int meterLower;
        int unit;
        boolean tied;
        int lastFirst;
        int lastCount;

        Voice() {
            lengths = new long[MEASURES_MOST];
            meters = new long[MEASURES_MOST];
            marks = new int[MARKS];
        }

        void begin(int[] head) {
            measureCount = 0;
            open = false;
            now = 0;
            signs = head.length > HEAD_SIGNS ? head[HEAD_SIGNS] : 0;
            meterNumber = head.length > HEAD_METER ? head[HEAD_METER] : 0;
            meterLower = head.length > HEAD_LOWER ? head[HEAD_LOWER] : 0;
            unit = head.length > HEAD_UNIT ? head[HEAD_UNIT] : 0;
            marked = true;
            clearMarks();
            forgetLast();
        }

        /** Most bars come without a mark to clear, so the row is passed over then. */
        void clearMarks() {
            for (int i = 0; i < MARKS && marked; i++) {
                marks[i] = 0;
            }
            marked = false;
        }

        void forgetLast() {
            tied = false;
            lastFirst = 0;
            lastCount = 0;
        }

        void keepLast(boolean newTied, int first, int count) {
            tied = newTied;
            lastFirst = first;
            lastCount = count;
        }

        /** A meter's time; 0 where there is none. */
        long meterTicks() {
            return meterLower > 0 ? WHOLE / meterLower * meterNumber : 0;
        }

        /** The measure at hand, or the one that comes next. */
        int measureHere() {
            return open ? measureCount - 1 : measureCount;
        }

        boolean enterMeasure() {
            return open || addMeasure();
        }

        boolean addMeasure() {
            if (measureCount < 0 || measureCount >= MEASURES_MOST) {
                return false;
            }
            lengths[measureCount] = 0;
            meters[measureCount] = meterTicks();
            measureCount++;
            open = true;
            return true;
        }

        /** The voice goes on, and its latest measure grows (or both give back, for less than 0). */
        void spend(long ticks) {
            now += ticks;
            int latest = measureCount - 1;
            if (latest >= 0 && latest < MEASURES_MOST) {
                lengths[latest] += ticks;
            }
        }

        long ticksIn(int measure) {
            return measure >= 0 && measure < MEASURES_MOST ? lengths[measure] : 0;
        }

        boolean isFull(int measure) {
            if (measure < 0 || measure >= MEASURES_MOST) {
                return false;
            }
            return meters[measure] == 0 || meters[measure] == lengths[measure];
        }

        /** Rule 0 keeps one mark for a letter, rule 1 one for each octave; less than 0 where no pitch can be. */
        private int markPlace(int rule, int letter, int octave) {
            int place = rule == 0 ? letter : (octave - LOWEST_OCTAVE) * LETTERS + letter;
            return place >= 0 && place < MARKS ? place : BAD;
        }

        void mark(int rule, int letter, int octave, int sign) {
            int place = markPlace(rule, letter, octave);
            if (place >= 0 && place < MARKS) {
                marks[place] = sign + 3;
                marked = true;
            }
        }

        int signOf(int rule, int letter, int octave) {
            int place = markPlace(rule, letter, octave);
            if (place >= 0 && place < MARKS && marks[place] != 0) {
                return marks[place] - 3;
            }
            int order = letter >= 0 && letter < LETTERS ? SHARP_ORDER[letter] : 0;
            if (signs > order) {
                return 1;
            }
            return -signs > LETTERS - 1 - order ? -1 : 0;
        }
    }

    /** What was read and waits for the next timed of the text. */
    private static final class Pending {
        int ornaments;
        int words;
        int slursBegin;
        int tupletLeft;
        int tupletNumber;
        int tupletLower;
        int brokenNumber;
        int brokenLower;

        void clear() {
            tupletLeft = 0;
            clearBroken();
            clearSigns();
        }

        private void clearBroken() {
            brokenNumber = 1;
            brokenLower = 1;
        }

        private void clearSigns() {
            ornaments = 0;
            words = 0;
            slursBegin = 0;
        }

        void beginTuplet(int number, int lower, int timed) {
            tupletNumber = number;
            tupletLower = lower;
            tupletLeft = timed;
        }

        /** A length, as a part of a unit that is a part of a whole, in ticks; 0 if it is no time that may be. */
        long ticksFor(long number, long lower) {
            long above = WHOLE * number * brokenNumber * (tupletLeft > 0 ? tupletNumber : 1);
            long below = lower * brokenLower * (tupletLeft > 0 ? tupletLower : 1);
            if (below < 1 || above % below != 0) {
                return 0;
            }
            long ticks = above / below;
            return ticks <= TICKS_MOST ? ticks : 0;
        }

        void giveTo(Things things, int i) {
            things.put(i, ORNAMENTS, ornaments);
            things.put(i, WORDS, words);
            things.put(i, SLURS_BEGIN, slursBegin);
            clearSigns();
            clearBroken();
            if (tupletLeft > 0) {
                tupletLeft--;
            }
        }
    }

    /** Reads what stands behind the heads. */
    private static final class Reader {
        final Text text;
        final Fields fields;
        final Tune tune;
        final Things things;
        final Pending pending;
        final int[] ownNumber;
        final int[] ownLower;
        int lengthNumber;
        int lengthLower;
        int voiceNumber;
        Voice voice;
        int slursOpen;
        int latestFirst;
        int latestCount;
        boolean rightBehind;

        Reader(Text text, Fields fields, Tune tune) {
            this.text = text;
            this.fields = fields;
            this.tune = tune;
            things = tune.things;
            pending = new Pending();
            ownNumber = new int[CHORD_MOST];
            ownLower = new int[CHORD_MOST];
            voice = tune.voiceOf(1);
        }

        void readBody() {
            for (int v = 1; v <= VOICES; v++) {
                tune.voiceOf(v).begin(tune.head);
            }
            takeVoice(1);
            pending.clear();
            slursOpen = 0;
            latestFirst = BAD;
            latestCount = 0;
            boolean over = false;
            for (int lines = 0; lines <= TEXT_MOST && text.fault == 0 && text.openLine(); lines++) {
                if (text.lineStop == text.lineStart) {
                    over = true;
                } else if (over) {
                    text.fail(FAULT_BYTE, text.lineStart);
                } else if (text.fieldLetter() > 0) {
                    readChange(true);
                } else {
                    musicLine();
                }
            }
            if (pending.tupletLeft > 0 || slursOpen > 0) {
                text.fail(FAULT_OPEN, text.count);
            }
        }

        private void takeVoice(int number) {
            voiceNumber = number;
            voice = tune.voiceOf(number);
            tune.head[HEAD_VOICE] = Math.max(tune.head[HEAD_VOICE], number);
        }

        /** A change: its thing comes behind what it tells, ahead of what must stand behind that. */
        private void readChange(boolean line) {
            int first = text.at;
            int letter = text.peek(line ? 0 : 1);
            text.at += line ? 2 : 3;
            text.skipBlanks();
            switch (letter) {
                case 'V':
                    takeVoice(text.number(VOICES, false));
                    break;
                case 'M':
                    fields.readMeter();
                    voice.meterNumber = fields.number;
                    voice.meterLower = fields.lower;
                    addChange(METER, first, fields.number, fields.lower);
                    break;
                case 'L':
                    fields.readUnit();
                    voice.unit = fields.unit;
                    addChange(UNIT, first, fields.unit, 0);
                    break;
                case 'K':
                    fields.readKey();
                    voice.signs = fields.signs;
                    addChange(KEY, first, fields.signs, 0);
                    break;
                default:
                    text.fail(FAULT_BYTE, first);
                    break;
            }
            if (line) {
                text.mustStop();
            } else {
                closeChange();
            }
        }

        private void closeChange() {
            text.skipBlanks();
            if (text.peek(0) != ']') {
                text.fail(FAULT_BYTE, text.at);
            }
            text.at++;
        }

        private void addChange(int sort, int first, int value, int lower) {
            if (text.fault != 0) {
                return;
            }
            int i = addThing(sort, first);
            things.put(i, VALUE, value);
            things.put(i, LETTER, lower);
        }

        /** A new thing of the voice at hand; less than 0, with a fault, if there are too many. */
        private int addThing(int sort, int first) {
            int i = things.add(sort, first);
            if (i < 0) {
                text.fail(FAULT_MANY, first);
                return BAD;
            }
            things.put(i, OF_VOICE, voiceNumber);
            things.put(i, OF_MEASURE, voice.measureHere());
            things.put(i, UNIT_THERE, voice.unit);
            things.setBegin(i, voice.now);
            return i;
        }

        private void musicLine() {
            rightBehind = false;
            text.skipBlanks();
            for (int steps = 0; steps <= TEXT_MOST && text.fault == 0 && text.at < text.lineStop; steps++) {
                boolean behind = rightBehind;
                rightBehind = false;
                switch (formHere()) {
                    case FORM_NOTE:
                        readSingle();
                        break;
                    case FORM_CHORD:
                        readGroup(true);
                        break;
                    case FORM_REST:
                        readRest();
                        break;
                    case FORM_BARS:
                        readBars();
                        break;
                    case FORM_BAR:
                        readBar();
                        break;
                    case FORM_CHANGE:
                        readChange(false);
                        break;
                    case FORM_GRACES:
                        readGroup(false);
                        break;
                    case FORM_TUPLET:
                        readTuplet();
                        break;
                    case FORM_SLUR:
                        readSlur();
                        break;
                    case FORM_BROKEN:
                        readBroken(behind);
                        break;
                    case FORM_ORNAMENT:
                        readOrnament();
                        break;
                    case FORM_WORD:
                        readWord();
                        break;
                    default:
                        text.fail(FAULT_BYTE, text.at);
                        break;
                }
                text.skipBlanks();
            }
        }

        /** What begins at the cursor. */
        private int formHere() {
            int b = text.peek(0);
            int next = text.peek(1);
            if (b < 0) {
                return FORM_NONE;
            }
            if (NOTE_BYTES.indexOf((char) b) >= 0) {
                return FORM_NOTE;
            }
            if (ORNAMENT_BYTES.indexOf((char) b) >= 0) {
                return FORM_ORNAMENT;
            }
            switch (b) {
                case '[':
                    return formOfBracket(next);
                case '|':
                case ':':
                    return barSort(b, next) >= 0 ? FORM_BAR : FORM_NONE;
                case 'z':
                case 'x':
                    return FORM_REST;
                case 'Z':
                    return FORM_BARS;
                case '(':
                    return next >= '0' && next <= '9' ? FORM_TUPLET : FORM_SLUR;
                case ')':
                    return FORM_SLUR;
                case '>':
                case '<':
                    return FORM_BROKEN;
                case '{':
                    return FORM_GRACES;
                case '"':
                case '!':
                    return FORM_WORD;
                default:
                    return FORM_NONE;
            }
        }

        private int formOfBracket(int next) {
            if (barSort('[', next) >= 0) {
                return FORM_BAR;
            }
            boolean letter = next == 'V' || next == 'M' || next == 'L' || next == 'K';
            return letter && text.peek(2) == ':' ? FORM_CHANGE : FORM_CHORD;
        }

        /** Which bar two bytes begin, as thing() tells it; less than 0 if none. */
        private static int barSort(int first, int second) {
            if (first == '|') {
                return second == '|' ? 1 : second == ']' ? 2 : second == ':' ? 4 : 0;
            }
            if (first == ':') {
                return second == '|' ? 5 : second == ':' ? 6 : BAD;
            }
            return second == '|' ? 3 : second >= '1' && second <= '4' ? 7 : BAD;
        }

        private void readSingle() {
            if (!voice.enterMeasure()) {
                text.fail(FAULT_MANY, text.at);
                return;
            }
            int first = things.count;
            readNote(NOTE, 0);
            finishTimed(first, 1, 1, 1);
        }

        /** A chord, or graces: one note or more, up to the closing byte. */
        private void readGroup(boolean chord) {
            if (chord && !voice.enterMeasure()) {
                text.fail(FAULT_MANY, text.at);
                return;
            }
            text.at++;
            int first = things.count;
            int most = chord ? CHORD_MOST : GRACES_MOST;
            int closing = chord ? ']' : '}';
            int notes = 0;
            while (notes <= most && text.fault == 0 && (notes == 0 || text.peek(0) != closing)) {
                if (notes == most && formHere() == FORM_NOTE) {
                    text.fail(FAULT_MANY, text.at);
                    return;
                }
                readNote(chord ? NOTE : GRACE, notes);
                notes++;
            }
            text.at++;
            if (chord && text.fault == 0) {
                readLength();
                finishTimed(first, notes, lengthNumber, lengthLower);
            }
        }

        private void readNote(int sort, int index) {
            int first = text.at;
            int sign = readSign();
            boolean signed = text.at > first;
            int b = text.peek(0);
            int letter = b < 0 ? BAD : LETTER_BYTES.indexOf((char) b);
            if (letter < 0) {
                text.fail(FAULT_BYTE, text.at);
                return;
            }
            text.at++;
            int octave = readOctave(letter < LETTERS ? 4 : 5);
            letter = letter % LETTERS;
            int i = addThing(sort, first);
            if (i < 0) {
                return;
            }
            int unsigned = signWithout(sort, letter, octave);
            if (signed) {
                voice.mark(tune.rule, letter, octave, sign);
            } else {
                sign = unsigned;
            }
            things.put(i, LETTER, letter);
            things.put(i, OCTAVE, octave);
            things.put(i, SIGN, sign);
            things.put(i, SIGN_WRITTEN, signed ? 1 : 0);
            things.put(i, SIGN_NEEDED, sign == unsigned ? 0 : 1);
            things.put(i, NOTES, 1);
            putPitch(i);
            readLength();
            if (index >= 0 && index < CHORD_MOST) {
                ownNumber[index] = lengthNumber;
                ownLower[index] = lengthLower;
            }
        }

        /** The sign at the cursor; 0 if none is there. */
        private int readSign() {
            int b = text.peek(0);
            int sign = b == '^' ? 1 : b == '_' ? -1 : 0;
            if (b == '^' || b == '_' || b == '=') {
                text.at++;
            }
            if (sign != 0 && text.peek(0) == b) {
                text.at++;
                return 2 * sign;
            }
            return sign;
        }

        private int readOctave(int octave) {
            int here = octave;
            while (text.at < text.lineStop && (text.peek(0) == '\'' || text.peek(0) == ',')) {
                here += text.peek(0) == '\'' ? 1 : -1;
                text.at++;
            }
            return here;
        }

        /** The sign that a note has if none is written: a tie's, else one written in this bar, else the key's. */
        private int signWithout(int sort, int letter, int octave) {
            if (sort == NOTE && voice.tied) {
                for (int i = voice.lastFirst; i < voice.lastFirst + voice.lastCount; i++) {
                    if (things.cell(i, LETTER) == letter && things.cell(i, OCTAVE) == octave) {
                        return things.cell(i, SIGN);
                    }
                }
            }
            return voice.signOf(tune.rule, letter, octave);
        }

        private void putPitch(int i) {
            int letter = things.cell(i, LETTER);
            int step = letter >= 0 && letter < LETTERS ? LETTER_PITCH[letter] : 0;
            int pitch = step + 12 * (things.cell(i, OCTAVE) + 1) + things.cell(i, SIGN);
            if (pitch < 0 || pitch > PITCH_MOST) {
                text.fail(FAULT_RANGE, things.cell(i, IN_TEXT));
            }
            things.put(i, VALUE, pitch);
        }

        private void readLength() {
            lengthNumber = 1;
            lengthLower = 1;
            boolean told = text.digitHere();
            if (told) {
                lengthNumber = text.number(LENGTH_MOST, false);
            }
            if (text.fault != 0 || text.peek(0) != '/') {
                return;
            }
            text.at++;
            if (text.digitHere()) {
                lengthLower = text.number(LENGTH_MOST, true);
                return;
            }
            lengthLower = 2;
            while (!told && lengthLower < LENGTH_MOST && text.peek(0) == '/') {
                text.at++;
                lengthLower = lengthLower * 2;
            }
            // one more / would still be the length's, so it is met ahead of what is wrong with the time
            if (!told && text.peek(0) == '/') {
                text.fail(FAULT_BYTE, text.at);
            }
        }

        private void readRest() {
            if (!voice.enterMeasure()) {
                text.fail(FAULT_MANY, text.at);
                return;
            }
            int first = addThing(text.peek(0) == 'z' ? REST : HIDDEN, text.at);
            if (first < 0) {
                return;
            }
            text.at++;
            readLength();
            ownNumber[0] = lengthNumber;
            ownLower[0] = lengthLower;
            finishTimed(first, 1, 1, 1);
        }

        /** Ties, times and all that waited for a timed, when it was read but for its tie. */
        private void finishTimed(int first, int count, int number, int lower) {
            if (text.fault != 0) {
                return;
            }
            boolean noted = things.cell(first, SORT) == NOTE;
            boolean tied = noted && text.peek(0) == '-';
            if (tied) {
                text.at++;
            }
            for (int k = 0; k < count && k < CHORD_MOST; k++) {
                int i = first + k;
                long ticks = pending.ticksFor((long) ownNumber[k] * number, (long) ownLower[k] * lower * voice.unit);
                if (ticks < 1) {
                    text.fail(FAULT_RANGE, things.cell(i, IN_TEXT));
                    return;
                }
                things.setTicks(i, ticks);
                things.put(i, TIE, tied ? 1 : 0);
                things.put(i, NOTES, noted ? count : 0);
                things.put(i, INDEX, k);
            }
            pending.giveTo(things, first);
            voice.spend(things.ticksOf(first));
            voice.keepLast(tied, first, count);
            latestFirst = first;
            latestCount = count;
            rightBehind = true;
        }

        private void readBars() {
            int first = text.at;
            if (!voice.enterMeasure()) {
                text.fail(FAULT_MANY, first);
                return;
            }
            long meter = voice.meterTicks();
            if (meter < 1) {
                text.fail(FAULT_BYTE, first);
                return;
            }
            int i = addThing(BARS, first);
            text.at++;
            int number = text.fault == 0 && text.digitHere() ? text.number(BARS_MOST, false) : 1;
            things.put(i, VALUE, number);
            things.setTicks(i, number * meter);
            voice.spend(meter);
            for (int more = 1; more < number && text.fault == 0; more++) {
                if (!voice.addMeasure()) {
                    text.fail(FAULT_MANY, first);
                    return;
                }
                voice.spend(meter);
            }
            voice.clearMarks();
            voice.forgetLast();
        }

        private void readBar() {
            int first = text.at;
            int sort = barSort(text.peek(0), text.peek(1));
            int i = addThing(BAR, first);
            if (i < 0) {
                return;
            }
            text.at += sort == 0 || sort == 7 ? 1 : 2;
            int digit = text.peek(0);
            int ending = 0;
            if ((sort == 0 || sort == 5 || sort == 7) && digit >= '1' && digit <= '4') {
                ending = digit - '0';
                text.at++;
            }
            things.put(i, VALUE, sort);
            things.put(i, ENDING, ending);
            voice.open = false;
            voice.clearMarks();
            if (voiceNumber == 1) {
                tune.tellGap(voice.measureCount, sort, ending);
            }
        }

        private void readTuplet() {
            int first = text.at;
            text.at++;
            int lower = text.peek(0) - '0';
            if (lower < 2 || lower > 9) {
                text.fail(FAULT_BYTE, text.at);
                return;
            }
            if (pending.tupletLeft > 0) {
                text.fail(FAULT_ORDER, first);
                return;
            }
            text.at++;
            int number = usualNumber(lower);
            int timed = lower;
            if (text.peek(0) == ':') {
                text.at++;
                number = readDigit(number);
                if (text.fault == 0 && text.peek(0) == ':') {
                    text.at++;
                    timed = readDigit(timed);
                }
            }
            pending.beginTuplet(number, lower, timed);
        }

        /** The digit at the cursor, or the usual number where none is there. */
        private int readDigit(int usual) {
            if (!text.digitHere()) {
                return usual;
            }
            int digit = text.peek(0) - '0';
            if (digit == 0) {
                text.fail(FAULT_BYTE, text.at);
            }
            text.at++;
            return digit;
        }

        private int usualNumber(int lower) {
            if (lower == 3 || lower == 6) {
                return 2;
            }
            if (lower == 2 || lower == 4 || lower == 8) {
                return 3;
            }
            int number = voice.meterNumber;
            return voice.meterLower == 8 && (number == 6 || number == 9 || number == 12) ? 3 : 2;
        }

        private void readSlur() {
            boolean opening = text.peek(0) == '(';
            if (slursOpen == (opening ? SLURS_MOST : 0)) {
                text.fail(FAULT_ORDER, text.at);
                return;
            }
            text.at++;
            if (opening) {
                slursOpen++;
                pending.slursBegin++;
            } else {
                slursOpen--;
                things.put(latestFirst, SLURS_CLOSE, things.cell(latestFirst, SLURS_CLOSE) + 1);
            }
        }

        private void readBroken(boolean behind) {
            int first = text.at;
            if (!behind) {
                text.fail(FAULT_ORDER, first);
                return;
            }
            int b = text.peek(0);
            int lower = 1;
            while (lower < 8 && text.peek(0) == b) {
                lower = lower * 2;
                text.at++;
            }
            text.skipBlanks();
            int form = formHere();
            if (form != FORM_NOTE && form != FORM_REST && form != FORM_CHORD) {
                text.fail(FAULT_ORDER, text.at);
                return;
            }
            int more = 2 * lower - 1;
            changeLatest(b == '>' ? more : 1, lower);
            pending.brokenNumber = b == '>' ? 1 : more;
            pending.brokenLower = lower;
        }

        /** The timed before gets so much of its time; it is of the voice and the measure at hand. */
        private void changeLatest(int number, int lower) {
            if (lower < 1) {
                return;
            }
            long was = things.ticksOf(latestFirst);
            for (int k = 0; k < latestCount && k < CHORD_MOST; k++) {
                int i = latestFirst + k;
                long above = things.ticksOf(i) * number;
                if (above % lower != 0 || above / lower > TICKS_MOST) {
                    text.fail(FAULT_RANGE, things.cell(i, IN_TEXT));
                    return;
                }
                things.setTicks(i, above / lower);
            }
            voice.spend(things.ticksOf(latestFirst) - was);
        }

        private void readOrnament() {
            int bit = ORNAMENT_BYTES.indexOf((char) text.peek(0));
            if (bit >= 0) {
                pending.ornaments = pending.ornaments | 1 << bit;
            }
            text.at++;
        }

        /** A word above, of any bytes, or one in ! !, of letters alone. */
        private void readWord() {
            int closing = text.peek(0);
            boolean any = closing == '"';
            text.at++;
            int size = 0;
            while (size < (any ? WORD_MOST : MARK_MOST) && mayBeInWord(any, text.peek(0))) {
                size++;
                text.at++;
            }
            if (text.peek(0) != closing || !any && size == 0) {
                text.fail(FAULT_BYTE, text.at);
                return;
            }
            text.at++;
            pending.words++;
        }

        private static boolean mayBeInWord(boolean any, int b) {
            if (any) {
                return b >= 0 && b != '"';
            }
            return b >= 'A' && b <= 'Z' || b >= 'a' && b <= 'z';
        }
    }

    /** The order in which measures are played, by what the bars between them tell. */
    private static final class Player {
        /** What a gap tells when one bar more stands in it. */
        static int withBar(int gap, int barSort, int ending) {
            int told = gap;
            if (barSort == 4 || barSort == 6) {
                told = told | START_BIT;
            }
            if (barSort == 5 || barSort == 6) {
                told = told | BACK_BIT;
            }
            if (barSort != 0 || ending != 0) {
                told = told | STOP_BIT;
            }
            if (ending != 0) {
                told = told & (START_BIT | BACK_BIT | STOP_BIT) | ending << ENDING_SHIFT;
            }
            return told;
        }

        /** Fills the row: how many are told. A way back always comes behind a told one, so the row's room ends it. */
        static int play(int[] gaps, int count, int[] row) {
            int told = 0;
            int m = 0;
            int beginning = 0;
            boolean again = false;
            boolean inside = false;
            boolean wentBack = false;
            int measures = Math.min(count, gaps.length - 1);
            for (int steps = 0; steps < 1000000 && m >= 0 && m < measures && told < row.length; steps++) {
                int before = gaps[m];
                int behind = gaps[m + 1];
                if (!wentBack && (before & START_BIT) != 0) {
                    beginning = m;
                    again = false;
                }
                wentBack = false;
                int ending = before >> ENDING_SHIFT;
                if (ending != 0) {
                    inside = (ending == 1) != again;
                    if (!inside) {
                        m = behindStop(gaps, measures, m);
                        continue;
                    }
                }
                row[told] = m;
                told++;
                m++;
                if ((behind & BACK_BIT) != 0) {
                    wentBack = !again;
                    if (again) {
                        beginning = m;
                    } else {
                        m = beginning;
                    }
                    again = !again;
                    inside = false;
                } else if ((behind & STOP_BIT) != 0) {
                    if (again && inside) {
                        again = false;
                        beginning = m;
                    }
                    inside = false;
                }
            }
            return told;
        }

        /** The measure behind the first one, from m on, with an end behind it. */
        private static int behindStop(int[] gaps, int measures, int m) {
            int next = m + 1;
            while (next < measures && next < gaps.length && (gaps[next] & STOP_BIT) == 0) {
                next++;
            }
            return next;
        }
    }

    /** Writes a note alone, in the least way. */
    private static final class Writer {
        final byte[] row;
        int count;

        Writer() {
            row = new byte[WRITTEN_MOST];
        }

        int byteAt(int k) {
            return k >= 0 && k < count && k < row.length ? row[k] : BAD;
        }

        /** False if the note's time is none that a length can tell. */
        boolean write(Things things, int i) {
            count = 0;
            if (things.cell(i, SIGN_NEEDED) != 0) {
                writeSign(things.cell(i, SIGN));
            }
            writeLetter(things.cell(i, LETTER), things.cell(i, OCTAVE));
            int unit = things.cell(i, UNIT_THERE);
            return unit > 0 && writeLength(things.ticksOf(i), WHOLE / unit);
        }

        private void put(int b) {
            if (count >= 0 && count < row.length) {
                row[count] = (byte) b;
                count++;
            }
        }

        private void writeSign(int sign) {
            if (sign == 0) {
                put('=');
            }
            for (int k = 0; k < Math.abs(sign); k++) {
                put(sign > 0 ? '^' : '_');
            }
        }

        private void writeLetter(int letter, int octave) {
            int place = octave > 4 ? letter + LETTERS : letter;
            if (place >= 0 && place < LETTER_BYTES.length()) {
                put(LETTER_BYTES.charAt(place));
            }
            for (int k = 5; k < octave; k++) {
                put('\'');
            }
            for (int k = 4; k > octave; k--) {
                put(',');
            }
        }

        private boolean writeLength(long ticks, long unitTicks) {
            long common = greatestCommon(ticks, unitTicks);
            if (common < 1) {
                return false;
            }
            long number = ticks / common;
            long lower = unitTicks / common;
            boolean power = (lower & (lower - 1)) == 0;
            if (number < 1 || number > LENGTH_MOST || lower > LENGTH_MOST || !power) {
                return false;
            }
            if (number > 1) {
                putDecimal((int) number);
            }
            if (lower > 1) {
                put('/');
            }
            if (lower > 2) {
                putDecimal((int) lower);
            }
            return true;
        }

        private void putDecimal(int number) {
            if (number > 9) {
                put('0' + number / 10);
            }
            put('0' + number % 10);
        }

        private static long greatestCommon(long one, long other) {
            long a = one;
            long b = other;
            for (int steps = 0; steps < 100 && b > 0; steps++) {
                long left = a % b;
                a = b;
                b = left;
            }
            return a;
        }
    }
}
