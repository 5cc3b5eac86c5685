import java.util.ArrayList;
import java.util.List;

/**
 * The document read a second time, apart from the class and in another way: with exceptions, lists and fractions.
 * What both tell of the same text must be the same.
 */
final class SecondModel {
    private static final long WHOLE = 1290240;
    private static final String LETTERS = "CDEFGAB";
    private static final String NOTE_BEGINS = "^=_ABCDEFGabcdefg";
    private static final String ORNAMENTS = ".~HTMPuv";
    private static final String[] BARS = {"|", "||", "|]", "[|", "|:", ":|", "::", "["};
    private static final String[] MODES = {"maj", "ion", "min", "aeo", "dor", "phr", "lyd", "mix", "loc", "m"};
    private static final int[] MODE_SIGNS = {0, 0, -3, -3, -2, -4, 1, -1, -5, -3};

    static final class Fault extends RuntimeException {
        private static final long serialVersionUID = 1;
        final int number;
        final int place;

        Fault(int number, int place) {
            this.number = number;
            this.place = place;
        }
    }

    record Part(long above, long below) {
        Part by(long a, long b) {
            return new Part(above * a, below * b);
        }

        Part by(Part other) {
            return by(other.above, other.below);
        }
    }

    record Line(int place, String text) {
    }

    record Bar(int sort, int ending, int size) {
    }

    record Marked(int letter, int octave, int sign) {
    }

    static final class Thing {
        int sort, voice, measure, value, letter, octave, sign, signed, tie, notes, index;
        int ornaments, words, slursBegin, slursEnd, ending, place, unit;
        boolean needsSign;
        long time, start;
        Part length = new Part(1, 1);
    }

    static final class Voice {
        long now;
        int signs, number, lower, unit;
        boolean open, tied;
        final List<Long> lengths = new ArrayList<>();
        final List<Long> meters = new ArrayList<>();
        final List<Marked> marked = new ArrayList<>();
        List<Thing> last = new ArrayList<>();

        long meter() {
            return number == 0 ? 0 : WHOLE * number / lower;
        }

        void spend(long time) {
            now += time;
            lengths.set(lengths.size() - 1, lengths.get(lengths.size() - 1) + time);
        }
    }

    private final String bytes;
    private final int rule;
    private final List<Line> lines = new ArrayList<>();
    private final List<String> titles = new ArrayList<>();
    private final List<Thing> things = new ArrayList<>();
    private final Voice[] voices = {null, new Voice(), new Voice(), new Voice()};
    private final List<List<Bar>> gaps = new ArrayList<>();
    private Line line;
    private int at;
    private int numberX, numberQ, greatestVoice = 1, voiceNumber = 1;
    private Voice head = new Voice();
    private Voice voice = voices[1];
    private List<Thing> latest = new ArrayList<>();
    private int slurs, ornaments, words, slursBegin, tupletLeft;
    private Part tuplet = new Part(1, 1);

    SecondModel(String bytes, int rule) {
        this.bytes = bytes;
        this.rule = rule;
    }

    /** All answers about a text, one line for each thing, or its fault. */
    static String tell(String bytes, int rule) {
        SecondModel model = new SecondModel(bytes, rule);
        try {
            model.readAll();
        } catch (Fault fault) {
            return -10 - fault.number + " at " + fault.place;
        }
        return model.tellAll();
    }

    private void readAll() {
        split();
        int first = heads();
        for (Voice each : voices) {
            if (each != null) {
                each.signs = head.signs;
                each.number = head.number;
                each.lower = head.lower;
                each.unit = head.unit;
            }
        }
        boolean over = false;
        for (Line each : lines.subList(first, lines.size())) {
            line = each;
            at = 0;
            if (each.text.isEmpty()) {
                over = true;
            } else if (over) {
                throw new Fault(1, each.place);
            } else if (each.text.matches("[A-Za-z]:.*")) {
                changeLine();
            } else {
                music();
            }
        }
        if (tupletLeft > 0 || slurs > 0) {
            throw new Fault(6, bytes.length());
        }
    }

    private void split() {
        if (bytes.length() > 2000) {
            throw new Fault(2, 2000);
        }
        int place = 0;
        while (place < bytes.length()) {
            int stop = bytes.indexOf('\n', place);
            stop = stop < 0 ? bytes.length() : stop;
            String text = bytes.substring(place, stop).split("%", 2)[0];
            for (int i = 0; i < text.length(); i++) {
                if (text.charAt(i) < 32 || text.charAt(i) > 126) {
                    throw new Fault(1, place + i);
                }
            }
            lines.add(new Line(place, text.replaceAll(" +$", "").replaceAll("\\\\$", "")));
            place = stop + 1;
        }
    }

    // what stands in a line

    private String here() {
        return at < line.text.length() ? line.text.substring(at, at + 1) : "";
    }

    private int place() {
        return line.place + at;
    }

    private Fault wrongByte() {
        return new Fault(1, place());
    }

    private boolean isHere(String some) {
        return !here().isEmpty() && some.contains(here());
    }

    private boolean take(String word) {
        boolean there = line.text.startsWith(word, at);
        at += there ? word.length() : 0;
        return there;
    }

    private void must(String word) {
        if (!take(word)) {
            throw wrongByte();
        }
    }

    private void blanks() {
        while (take(" ")) {
            continue;
        }
    }

    private boolean digit() {
        return isHere("0123456789");
    }

    private int number(int most, boolean power) {
        int first = at;
        while (digit()) {
            at++;
        }
        String digits = line.text.substring(first, at).replaceAll("^0+", "");
        int value = digits.isEmpty() || digits.length() > 5 ? 0 : Integer.parseInt(digits);
        if (value < 1 || value > most || power && Integer.bitCount(value) != 1) {
            throw new Fault(1, line.place + first);
        }
        return value;
    }

    private void mustStop() {
        if (at < line.text.length()) {
            throw wrongByte();
        }
    }

    // meters, units, keys, heads

    private void meter(Voice of) {
        if (take("none")) {
            of.number = 0;
            of.lower = 0;
        } else if (take("C|")) {
            of.number = 2;
            of.lower = 2;
        } else if (take("C")) {
            of.number = 4;
            of.lower = 4;
        } else {
            of.number = number(32, false);
            must("/");
            of.lower = number(32, true);
        }
    }

    private int unit() {
        must("1");
        must("/");
        return number(64, true);
    }

    private int key() {
        int first = place();
        if (take("none")) {
            return 0;
        }
        if (!isHere("ABCDEFG")) {
            throw wrongByte();
        }
        int signs = "FCGDAEB".indexOf(here()) - 1;
        at++;
        signs += take("#") ? 7 : take("b") ? -7 : 0;
        for (int i = 0; i < MODES.length; i++) {
            if (take(MODES[i])) {
                signs += MODE_SIGNS[i];
                break;
            }
        }
        if (signs < -7 || signs > 7) {
            throw new Fault(3, first);
        }
        return signs;
    }

    /** The heads come in one order, so their letters so far tell which may come. */
    private int heads() {
        String come = "";
        while (!come.endsWith("K")) {
            if (come.length() >= lines.size()) {
                throw new Fault(1, bytes.length());
            }
            line = lines.get(come.length());
            come += line.text.matches("[XTMLQK]:.*") ? line.text.substring(0, 1) : "?";
            boolean once = come.indexOf(come.charAt(come.length() - 1)) == come.length() - 1;
            if (!come.matches("X(T{1,3}([MLQ]{0,3}K?))?") || !come.endsWith("T") && !once) {
                throw new Fault(1, line.place);
            }
            at = 2;
            blanks();
            oneHead(come.charAt(come.length() - 1));
            mustStop();
        }
        if (head.unit == 0) {
            head.unit = head.number > 0 && head.meter() < WHOLE / 4 * 3 ? 16 : 8;
        }
        return come.length();
    }

    private void oneHead(char letter) {
        switch (letter) {
            case 'X' -> numberX = number(9999, false);
            case 'T' -> {
                titles.add(line.text.substring(at));
                at = line.text.length();
            }
            case 'M' -> meter(head);
            case 'L' -> head.unit = unit();
            case 'Q' -> numberQ = number(999, false);
            default -> head.signs = key();
        }
    }

    // things

    private Thing add(int sort, int place) {
        if (things.size() == 400) {
            throw new Fault(2, place);
        }
        Thing thing = new Thing();
        thing.sort = sort;
        thing.place = place;
        thing.voice = voiceNumber;
        thing.measure = voice.lengths.size() - (voice.open ? 1 : 0);
        thing.start = voice.now;
        thing.unit = voice.unit;
        things.add(thing);
        return thing;
    }

    private void changeLine() {
        if (!isHere("VMLK")) {
            throw wrongByte();
        }
        change(0);
        mustStop();
    }

    private void change(int ahead) {
        int first = place();
        char letter = line.text.charAt(at + ahead);
        at += ahead + 2;
        blanks();
        if (letter == 'V') {
            voiceNumber = number(3, false);
            voice = voices[voiceNumber];
            greatestVoice = Math.max(greatestVoice, voiceNumber);
        } else if (letter == 'M') {
            meter(voice);
            Thing thing = add(7, first);
            thing.value = voice.number;
            thing.letter = voice.lower;
        } else if (letter == 'L') {
            voice.unit = unit();
            add(8, first).value = voice.unit;
        } else {
            voice.signs = key();
            add(6, first).value = voice.signs;
        }
    }

    private void measure(int place) {
        if (voice.lengths.size() == 300) {
            throw new Fault(2, place);
        }
        voice.lengths.add(0L);
        voice.meters.add(voice.meter());
        voice.open = true;
    }

    private boolean changeHere() {
        return line.text.substring(at).matches("\\[[VMLK]:.*");
    }

    private Bar barHere() {
        Bar best = null;
        for (int sort = 0; sort < BARS.length; sort++) {
            int size = BARS[sort].length();
            if (!line.text.startsWith(BARS[sort], at)) {
                continue;
            }
            String behind = line.text.substring(at + size);
            boolean ending = (sort == 0 || sort == 5 || sort == 7) && behind.matches("[1-4].*");
            if (sort == 7 && !ending) {
                continue;
            }
            Bar bar = new Bar(sort, ending ? behind.charAt(0) - '0' : 0, size + (ending ? 1 : 0));
            best = best == null || bar.size > best.size ? bar : best;
        }
        return best;
    }

    private boolean timedHere() {
        return isHere(NOTE_BEGINS + "zx") || isHere("[") && barHere() == null && !changeHere();
    }

    // music

    private void music() {
        boolean behindTimed = false;
        for (blanks(); !here().isEmpty(); blanks()) {
            if (isHere("<>")) {
                broken(behindTimed);
                behindTimed = true;
            } else if (timedHere()) {
                timed(new Part(1, 1));
                behindTimed = true;
            } else {
                behindTimed = false;
                other();
            }
        }
    }

    private void other() {
        if (changeHere()) {
            change(1);
            blanks();
            must("]");
        } else if (barHere() != null) {
            bar(barHere());
        } else if (isHere("Z")) {
            barsOfRest();
        } else if (line.text.substring(at).matches("\\([0-9].*")) {
            tuplet();
        } else if (isHere("()")) {
            slur();
        } else if (isHere("{")) {
            at++;
            notes(5, 8, "}");
        } else if (isHere(ORNAMENTS)) {
            ornaments |= 1 << ORNAMENTS.indexOf(here());
            at++;
        } else if (isHere("!\"")) {
            word();
        } else {
            throw wrongByte();
        }
    }

    private void broken(boolean behindTimed) {
        if (!behindTimed) {
            throw new Fault(5, place());
        }
        String sign = here();
        int parts = 1;
        while (parts < 8 && take(sign)) {
            parts *= 2;
        }
        blanks();
        if (!timedHere()) {
            throw new Fault(5, place());
        }
        Part less = new Part(1, parts);
        Part more = new Part(2 * parts - 1, parts);
        long was = latest.get(0).time;
        for (Thing thing : latest) {
            setTime(thing, new Part(thing.time, 1).by(sign.equals(">") ? more : less));
        }
        voice.spend(latest.get(0).time - was);
        timed(sign.equals(">") ? less : more);
    }

    private static void setTime(Thing thing, Part time) {
        if (time.above % time.below != 0 || time.above < time.below || time.above / time.below > 8 * WHOLE) {
            throw new Fault(4, thing.place);
        }
        thing.time = time.above / time.below;
    }

    private void timed(Part part) {
        int first = place();
        if (!voice.open) {
            measure(first);
        }
        List<Thing> all = new ArrayList<>();
        Part whole = part;
        boolean rest = isHere("zx");
        if (rest) {
            all.add(add(isHere("z") ? 1 : 2, first));
            at++;
            all.get(0).length = length();
        } else if (take("[")) {
            all = notes(0, 12, "]");
            whole = whole.by(length());
        } else {
            all.add(note(0));
        }
        boolean tied = !rest && take("-");
        whole = tupletLeft > 0 ? whole.by(tuplet) : whole;
        for (Thing thing : all) {
            setTime(thing, new Part(WHOLE, voice.unit).by(thing.length).by(whole));
            thing.tie = tied ? 1 : 0;
            thing.index = all.indexOf(thing);
            thing.notes = rest ? 0 : all.size();
        }
        tupletLeft = Math.max(0, tupletLeft - 1);
        Thing one = all.get(0);
        one.ornaments = ornaments;
        one.words = words;
        one.slursBegin = slursBegin;
        ornaments = 0;
        words = 0;
        slursBegin = 0;
        voice.spend(one.time);
        voice.tied = tied;
        voice.last = all;
        latest = all;
    }

    private List<Thing> notes(int sort, int most, String closing) {
        List<Thing> all = new ArrayList<>();
        while (all.isEmpty() || !take(closing)) {
            if (all.size() == most && isHere(NOTE_BEGINS)) {
                throw new Fault(2, place());
            }
            all.add(note(sort));
        }
        return all;
    }

    private Thing note(int sort) {
        int first = place();
        boolean signed = isHere("^=_");
        int sign = take("^^") ? 2 : take("__") ? -2 : take("^") ? 1 : take("_") ? -1 : 0;
        if (signed && sign == 0) {
            must("=");
        }
        if (!isHere("ABCDEFGabcdefg")) {
            throw wrongByte();
        }
        int letter = LETTERS.indexOf(here().toUpperCase());
        int octave = isHere(LETTERS) ? 4 : 5;
        at++;
        while (isHere("',")) {
            octave += isHere("'") ? 1 : -1;
            at++;
        }
        Thing thing = add(sort, first);
        int without = signWithout(sort, letter, octave);
        thing.letter = letter;
        thing.octave = octave;
        thing.sign = signed ? sign : without;
        thing.signed = signed ? 1 : 0;
        thing.needsSign = thing.sign != without;
        thing.notes = 1;
        if (signed) {
            voice.marked.add(new Marked(letter, octave, sign));
        }
        thing.value = new int[] {0, 2, 4, 5, 7, 9, 11}[letter] + 12 * octave + 12 + thing.sign;
        if (thing.value < 0 || thing.value > 127) {
            throw new Fault(4, first);
        }
        thing.length = length();
        return thing;
    }

    private int signWithout(int sort, int letter, int octave) {
        for (Thing thing : voice.last) {
            if (sort == 0 && voice.tied && thing.letter == letter && thing.octave == octave) {
                return thing.sign;
            }
        }
        for (int i = voice.marked.size() - 1; i >= 0; i--) {
            Marked marked = voice.marked.get(i);
            if (marked.letter == letter && (rule == 0 || marked.octave == octave)) {
                return marked.sign;
            }
        }
        String changed = voice.signs > 0 ? "FCGDAEB" : "BEADGCF";
        boolean told = changed.indexOf(LETTERS.charAt(letter)) < Math.abs(voice.signs);
        return told ? Integer.signum(voice.signs) : 0;
    }

    private Part length() {
        if (digit()) {
            Part told = new Part(number(64, false), 1);
            return take("/") ? told.by(1, digit() ? number(64, true) : 2) : told;
        }
        if (!take("/")) {
            return new Part(1, 1);
        }
        if (digit()) {
            return new Part(1, number(64, true));
        }
        int lower = 2;
        while (isHere("/")) {
            if (lower == 64) {
                throw wrongByte();
            }
            lower *= 2;
            at++;
        }
        return new Part(1, lower);
    }

    private void bar(Bar bar) {
        Thing thing = add(4, place());
        thing.value = bar.sort;
        thing.ending = bar.ending;
        at += bar.size;
        voice.open = false;
        voice.marked.clear();
        if (voiceNumber == 1) {
            gap(voice.lengths.size()).add(bar);
        }
    }

    private List<Bar> gap(int before) {
        while (gaps.size() <= before) {
            gaps.add(new ArrayList<>());
        }
        return gaps.get(before);
    }

    private void barsOfRest() {
        int first = place();
        if (!voice.open) {
            measure(first);
        }
        if (voice.number == 0) {
            throw wrongByte();
        }
        Thing thing = add(3, first);
        at++;
        thing.value = digit() ? number(16, false) : 1;
        thing.time = thing.value * voice.meter();
        for (int i = 0; i < thing.value; i++) {
            if (i > 0) {
                measure(first);
            }
            voice.spend(voice.meter());
        }
        voice.marked.clear();
        voice.last = new ArrayList<>();
    }

    private void tuplet() {
        int first = place();
        at++;
        if (isHere("01")) {
            throw wrongByte();
        }
        int p = Integer.parseInt(here());
        if (tupletLeft > 0) {
            throw new Fault(5, first);
        }
        at++;
        boolean byThree = voice.lower == 8 && (voice.number == 6 || voice.number == 9 || voice.number == 12);
        int q = p == 3 || p == 6 ? 2 : p == 2 || p == 4 || p == 8 || byThree ? 3 : 2;
        int r = p;
        if (take(":")) {
            q = oneDigit(q);
            r = take(":") ? oneDigit(r) : r;
        }
        tuplet = new Part(q, p);
        tupletLeft = r;
    }

    private int oneDigit(int usual) {
        if (isHere("0")) {
            throw wrongByte();
        }
        int value = digit() ? Integer.parseInt(here()) : usual;
        at += digit() ? 1 : 0;
        return value;
    }

    private void slur() {
        if (isHere("(") ? slurs == 4 : slurs == 0) {
            throw new Fault(5, place());
        }
        if (take("(")) {
            slurs++;
            slursBegin++;
            return;
        }
        at++;
        slurs--;
        if (!latest.isEmpty()) {
            latest.get(0).slursEnd++;
        }
    }

    private void word() {
        String closing = here();
        at++;
        boolean above = closing.equals("\"");
        int size = 0;
        while (size < (above ? 20 : 12) && (above ? !here().isEmpty() && !isHere("\"") : here().matches("[A-Za-z]"))) {
            size++;
            at++;
        }
        if (!above && size == 0) {
            throw wrongByte();
        }
        must(closing);
        words++;
    }

    // what is told of it all

    private boolean start(int before) {
        return gap(before).stream().anyMatch(bar -> bar.sort == 4 || bar.sort == 6);
    }

    private boolean back(int before) {
        return gap(before).stream().anyMatch(bar -> bar.sort == 5 || bar.sort == 6);
    }

    private boolean stop(int before) {
        return gap(before).stream().anyMatch(bar -> bar.sort != 0 || bar.ending != 0);
    }

    private int ending(int before) {
        return gap(before).stream().mapToInt(Bar::ending).filter(ending -> ending > 0).reduce(0, (one, next) -> next);
    }

    private List<Integer> played() {
        List<Integer> played = new ArrayList<>();
        int measures = voices[1].lengths.size();
        int beginning = 0;
        boolean again = false;
        boolean inside = false;
        boolean wentBack = false;
        int m = 0;
        while (m < measures && played.size() < 1000) {
            if (!wentBack && start(m)) {
                beginning = m;
                again = false;
            }
            wentBack = false;
            int ending = ending(m);
            if (ending > 0 && again == (ending == 1)) {
                inside = false;
                for (m++; m < measures && !stop(m); m++) {
                    continue;
                }
                continue;
            }
            inside = inside || ending > 0;
            played.add(m);
            m++;
            if (back(m) && !again) {
                again = true;
                inside = false;
                wentBack = true;
                m = beginning;
            } else if (back(m) || stop(m)) {
                beginning = back(m) || again && inside ? m : beginning;
                again = again && !back(m) && !inside;
                inside = false;
            }
        }
        return played;
    }

    /** A note alone, or BAD. */
    private static String written(Thing thing) {
        if (thing.sort != 0) {
            return "BAD";
        }
        StringBuilder row = new StringBuilder(thing.needsSign ? new String[] {"__", "_", "=", "^", "^^"}[thing.sign + 2] : "");
        String letter = LETTERS.substring(thing.letter, thing.letter + 1);
        if (thing.octave > 4) {
            row.append(letter.toLowerCase()).append("'".repeat(thing.octave - 5));
        } else {
            row.append(letter).append(",".repeat(4 - thing.octave));
        }
        for (int lower = 1; lower <= 64; lower *= 2) {
            long above = thing.time * thing.unit * lower;
            if (above % WHOLE == 0) {
                long number = above / WHOLE;
                row.append(number == 1 ? "" : String.valueOf(number));
                row.append(lower == 1 ? "" : lower == 2 ? "/" : "/" + lower);
                return number > 64 ? "BAD" : row.toString();
            }
        }
        return "BAD";
    }

    private String tellAll() {
        StringBuilder all = new StringBuilder();
        all.append(things.size()).append(" at -2\n");
        all.append(numberX + " " + titles.size() + " " + head.number + " " + head.lower + " " + head.unit + " " + numberQ);
        all.append(" " + head.signs + " " + things.size() + " " + greatestVoice + " " + rule + "\n");
        for (String title : titles) {
            all.append("title ").append(title).append('\n');
        }
        for (Thing t : things) {
            int[] row = {t.sort, t.voice, t.measure, t.value, t.letter, t.octave, t.sign, t.signed, t.tie, t.notes, t.index,
                t.ornaments, t.words, t.slursBegin, t.slursEnd, t.ending, t.place};
            for (int cell : row) {
                all.append(cell).append(' ');
            }
            all.append(t.time + " " + t.start + " " + written(t) + "\n");
        }
        for (int v = 1; v <= 3; v++) {
            all.append("voice");
            for (int m = 0; m < voices[v].lengths.size(); m++) {
                long length = voices[v].lengths.get(m);
                long meter = voices[v].meters.get(m);
                all.append(" ").append(length).append(meter == 0 || meter == length ? " full" : " not");
            }
            all.append('\n');
        }
        return all.append("played ").append(played()).toString();
    }
}
