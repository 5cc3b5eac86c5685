/** Promises 1 to 15: for each sentence that names an edge (a wrong number, an empty or full tape, no tune), a test of its own. */
public final class PromiseEdgesTest {
    private static final long E = 1290240 / 8;
    private static final int LEAST = Integer.MIN_VALUE;
    private static final int MOST = Integer.MAX_VALUE;
    private static final int BAD = AbcForms.BAD;
    private static final String METER = "X:1\nT:a\nM:4/4\nL:1/8\nK:C\n";

    public static void main(String[] args) {
        names();
        calls512();
        nearestRule();
        emptyTapeNoTune();
        feedHighestFirst();
        feedFull();
        endOfTheLastTwenty();
        endBad();
        readEmptiesTheTape();
        readOfAFault();
        place();
        head();
        title();
        thingNumbers();
        thingValues();
        thingNotes();
        thingMarks();
        thingPlaces();
        time();
        start();
        measures();
        full();
        length();
        played();
        writtenSigns();
        writtenLetters();
        writtenLengths();
        writtenOf64AtMost();
        writtenTimeAsItIs();
        writtenBad();
        Checks.close();
    }

    /** "BAD = -1, NONE = -2, FULL = -3" */
    private static void names() {
        Checks.due("BAD", AbcForms.BAD, -1);
        Checks.due("NONE", AbcForms.NONE, -2);
        Checks.due("FULL", AbcForms.FULL, -3);
    }

    /** "An object is used for at most 512 calls": up to the last of them it answers as told. */
    private static void calls512() {
        AbcForms x = new AbcForms(1);
        String twenty = Checks.HEADS + "^A|A    ";
        for (int round = 0; round < 170; round++) {
            Checks.feed(x, twenty);
            Checks.due("read() of round " + round, x.read(), 3);
            Checks.due("thing(2, 6) of round " + round, x.thing(2, 6), 0);
        }
        Checks.due("the 511th", x.head(7), 3);
        Checks.due("the 512th", x.thing(0, 3), 70);
    }

    /** "RULE 0, 1 (others as the nearest)" */
    private static void nearestRule() {
        int[] rules = {LEAST, -2, -1, 0, 1, 2, 3, MOST};
        for (int i = 0; i < rules.length; i++) {
            AbcForms x = Checks.tune(rules[i], Checks.HEADS + "^c C", 2);
            Checks.due("RULE of " + rules[i], x.head(9), i < 4 ? 0 : 1);
            Checks.due("by the RULE of " + rules[i], x.thing(1, 6), i < 4 ? 1 : 0);
        }
    }

    /** "An empty tape, no tune." */
    private static void emptyTapeNoTune() {
        noTune(new AbcForms(0));
        AbcForms x = new AbcForms(1);
        Checks.due("end(20) of an empty tape", x.end(20), BAD);
        Checks.due("the first twenty", x.feed(0, 0, 0, 0, 0), 20);
        noTune(x);
        Checks.due("place() ahead of a read()", x.place(), AbcForms.NONE);
    }

    private static void noTune(AbcForms x) {
        for (int n = -2; n <= 10; n++) {
            Checks.due("head(" + n + ")", x.head(n), BAD);
            Checks.due("time(" + n + ")", x.time(n), BAD);
            Checks.due("start(" + n + ")", x.start(n), BAD);
            Checks.due("measures(" + n + ")", x.measures(n), BAD);
            Checks.due("played(" + n + ")", x.played(n), BAD);
            for (int k = -1; k <= 1; k++) {
                Checks.due("title(" + n + ", " + k + ")", x.title(n, k), BAD);
                Checks.due("thing(" + n + ", " + k + ")", x.thing(n, k), BAD);
                Checks.due("full(" + n + ", " + k + ")", x.full(n, k), BAD);
                Checks.due("length(" + n + ", " + k + ")", x.length(n, k), BAD);
                Checks.due("written(" + n + ", " + k + ")", x.written(n, k), BAD);
            }
        }
    }

    /** "Twenty bytes come behind the tape, the highest of each number first: how many it has." */
    private static void feedHighestFirst() {
        AbcForms x = new AbcForms(0);
        Checks.due("feed", x.feed(0x583A310A, 0x543A6162, 0x63646566, 0x6768696A, 0x6B6C6D6E), 20);
        Checks.due("feed", x.feed(0x6F70710A, 0x4B3A430A, 0x25FF8001, 0x7F00FFFF, LEAST), 40);
        Checks.due("read()", x.read(), 0);
        Checks.due("all of the title", x.title(0, -1), 17);
        for (int k = 0; k < 17; k++) {
            Checks.due("title(0, " + k + ")", x.title(0, k), 'a' + k);
        }
        x.feed(0x583A310A, 0x543A61FF, 0x0A4B3A43, 0x0A202020, 0x20202020);
        Checks.due("a number below 0 has bytes above 126", x.read(), -11);
        Checks.due("its place", x.place(), 7);
    }

    /** "FULL: above 2,400." */
    private static void feedFull() {
        AbcForms x = new AbcForms(0);
        for (int i = 1; i <= 119; i++) {
            x.feed(0, 0, 0, 0, 0);
        }
        Checks.due("2,380 and twenty", x.feed(0, 0, 0, 0, 0), 2400);
        Checks.due("2,400 and twenty", x.feed(0, 0, 0, 0, 0), AbcForms.FULL);
        Checks.due("nothing has come", x.end(20), 2400);
        Checks.due("one less", x.end(1), 2381);
        Checks.due("2,381 and twenty", x.feed(0, 0, 0, 0, 0), AbcForms.FULL);
        Checks.due("nothing has come", x.end(19), 2380);
        Checks.due("2,380 and twenty again", x.feed(0, 0, 0, 0, 0), 2400);
        Checks.due("read() of a full tape", x.read(), -12);
        Checks.due("its place", x.place(), 2000);
        Checks.due("room again", x.feed(0, 0, 0, 0, 0), 20);
    }

    /** "Of the last twenty bytes of the tape the first n (0 .. 20) stay: how many it has." */
    private static void endOfTheLastTwenty() {
        for (int n = 0; n <= 20; n++) {
            AbcForms x = new AbcForms(0);
            x.feed(0x583A310A, 0x543A610A, 0x4B3A430A, 0x20202020, 0x20202020);
            x.feed(0x41414141, 0x41414141, 0x41414141, 0x41414141, 0x41414141);
            Checks.due("end(" + n + ")", x.end(n), 20 + n);
            Checks.due("read() behind end(" + n + ")", x.read(), n);
        }
        AbcForms x = new AbcForms(0);
        x.feed(0x583A310A, 0x543A610A, 0x4B3A430A, 0x41424344, 0x45464741);
        x.end(19);
        x.feed(0x0A3F3F3F, 0x3F3F3F3F, 0x3F3F3F3F, 0x3F3F3F3F, 0x3F3F3F3F);
        Checks.due("over two feeds", x.end(1), 20);
        Checks.due("twenty once more", x.end(14), 14);
        Checks.due("fewer than twenty", x.end(14), BAD);
        Checks.due("what stays", x.read(), 2);
    }

    /** "BAD: another n, or fewer than twenty are there." */
    private static void endBad() {
        AbcForms x = new AbcForms(0);
        x.feed(0, 0, 0, 0, 0);
        int[] wrong = {-1, 21, LEAST, MOST, 256, -20};
        for (int i = 0; i < wrong.length; i++) {
            Checks.due("end(" + wrong[i] + ")", x.end(wrong[i]), BAD);
        }
        Checks.due("nothing was changed", x.end(20), 20);
        Checks.due("one goes", x.end(19), 19);
        for (int n = -1; n <= 21; n++) {
            Checks.due("end(" + n + ") of nineteen", x.end(n), BAD);
        }
        Checks.due("nineteen are there", x.feed(0, 0, 0, 0, 0), 39);
        Checks.due("all of the last twenty", x.end(0), 19);
        AbcForms none = new AbcForms(0);
        Checks.due("an empty tape", none.end(0), BAD);
        none.feed(0, 0, 0, 0, 0);
        Checks.due("emptied", none.end(0), 0);
        Checks.due("empty", none.end(0), BAD);
    }

    /** "The tape, which is empty then, is the tune: how many THINGS" */
    private static void readEmptiesTheTape() {
        AbcForms x = new AbcForms(0);
        Checks.due("no THINGS", Checks.read(x, Checks.HEADS), 0);
        Checks.due("the tape is empty", x.end(0), BAD);
        Checks.due("one", Checks.read(x, Checks.HEADS + "A"), 1);
        Checks.due("400", Checks.read(x, Checks.HEADS + Checks.times("z", 400)), 400);
        Checks.due("a fault", Checks.read(x, Checks.HEADS + "?"), -11);
        Checks.due("the tape is empty then, too", x.feed(0, 0, 0, 0, 0), 20);
        Checks.due("emptied", x.end(0), 0);
        Checks.due("read() of an empty tape", x.read(), -11);
        Checks.due("two behind many", Checks.read(x, Checks.HEADS + "AB"), 2);
        Checks.due("feeding leaves the tune", x.feed(MOST, MOST, MOST, MOST, MOST), 20);
        Checks.due("its THINGS", x.head(7), 2);
        Checks.due("its title", x.title(0, 0), 'a');
    }

    /** "- 10 less a FAULT (there is no tune then)" */
    private static void readOfAFault() {
        String[] text = {"?", "[CDEFGABcdefga]", "[K:G#]", "C,,,,,,", ")", "("};
        for (int fault = 1; fault <= 6; fault++) {
            AbcForms x = new AbcForms(0);
            Checks.due("a tune", Checks.read(x, Checks.HEADS + "AB|"), 3);
            Checks.due("FAULT " + fault, Checks.read(x, Checks.HEADS + "AB|" + text[fault - 1]), -10 - fault);
            noTune(x);
            Checks.due("a tune again", Checks.read(x, Checks.HEADS + "AB|"), 3);
            Checks.due("its THINGS", x.head(7), 3);
        }
    }

    /** "The place of the latest read()'s FAULT. NONE: none." */
    private static void place() {
        AbcForms x = new AbcForms(0);
        Checks.due("no read() yet", x.place(), AbcForms.NONE);
        Checks.read(x, Checks.HEADS + "AB?");
        Checks.due("of the latest", x.place(), 14);
        x.feed(0, 0, 0, 0, 0);
        x.end(0);
        Checks.due("still", x.place(), 14);
        Checks.read(x, Checks.HEADS + "A?");
        Checks.due("of the latest", x.place(), 13);
        Checks.read(x, Checks.HEADS + "A");
        Checks.due("none then", x.place(), AbcForms.NONE);
        x.read();
        Checks.due("at 0", x.place(), 0);
    }

    /** "2 meter's number (0: none) .. 5 Q (0) .. BAD: none such, no tune." */
    private static void head() {
        AbcForms x = Checks.tune(1, Checks.HEADS, 0);
        int[] want = {1, 1, 0, 0, 8, 0, 0, 0, 1, 1};
        for (int what = 0; what < want.length; what++) {
            Checks.due("head(" + what + ")", x.head(what), want[what]);
        }
        int[] wrong = {-1, 10, 11, -2, LEAST, MOST};
        for (int i = 0; i < wrong.length; i++) {
            Checks.due("head(" + wrong[i] + ")", x.head(wrong[i]), BAD);
        }
        AbcForms flat = Checks.tune(0, "X:1\nT:a\nK:F", 0);
        Checks.due("SIGNS below 0", flat.head(6), -1);
    }

    /** "Byte k of T line i (behind blanks); k = - 1: how many. BAD: none such." */
    private static void title() {
        AbcForms x = Checks.tune(0, "X:1\nT:   a b\nT:\nK:C", 0);
        Checks.due("title(0, -1)", x.title(0, -1), 3);
        Checks.due("title(0, 0)", x.title(0, 0), 'a');
        Checks.due("title(0, 2)", x.title(0, 2), 'b');
        Checks.due("title(1, -1)", x.title(1, -1), 0);
        int[] wrong = {3, 4, -2, LEAST, MOST};
        for (int i = 0; i < wrong.length; i++) {
            Checks.due("title(0, " + wrong[i] + ")", x.title(0, wrong[i]), BAD);
            Checks.due("title(1, " + wrong[i] + ")", x.title(1, wrong[i]), BAD);
        }
        Checks.due("title(1, 0)", x.title(1, 0), BAD);
        int[] lines = {-1, 2, 3, LEAST, MOST};
        for (int i = 0; i < lines.length; i++) {
            Checks.due("title(" + lines[i] + ", -1)", x.title(lines[i], -1), BAD);
            Checks.due("title(" + lines[i] + ", 0)", x.title(lines[i], 0), BAD);
        }
        AbcForms three = Checks.tune(0, "X:1\nT:a\nT:b\nT:c\nK:C", 0);
        Checks.due("the third", three.title(2, 0), 'c');
        Checks.due("no fourth", three.title(3, -1), BAD);
        Checks.due("fewer then", Checks.read(three, "X:1\nT:a\nK:C"), 0);
        Checks.due("the third is gone", three.title(2, -1), BAD);
    }

    /** "Of THING i: .. BAD: none such." */
    private static void thingNumbers() {
        AbcForms x = Checks.music("AB", 2);
        int[] wrong = {-1, 2, 399, 400, 401, LEAST, MOST};
        int[] what = {-1, 17, 18, 19, 20, LEAST, MOST};
        for (int i = 0; i < wrong.length; i++) {
            for (int k = 0; k <= 16; k++) {
                Checks.due("thing(" + wrong[i] + ", " + k + ")", x.thing(wrong[i], k), BAD);
            }
            Checks.due("thing(0, " + what[i] + ")", x.thing(0, what[i]), BAD);
            Checks.due("thing(1, " + what[i] + ")", x.thing(1, what[i]), BAD);
        }
        Checks.due("the last", x.thing(1, 16), 13);
        Checks.read(x, Checks.HEADS + "A");
        Checks.due("an earlier tune's is gone", x.thing(1, 0), BAD);
    }

    /** "3 PITCH (of a BAR: ..; KEY: SIGNS; METER: number; UNIT, BARS: number), 4 letter (0 .. 6, C first; METER: lower one), 5 octave .." */
    private static void thingValues() {
        AbcForms x = Checks.tune(1, METER + "^c'2-zx3Z7:|4{_B,}[K:Cb][M:32/16][L:1/64]", 9);
        Checks.cells("3", x, 3, 85, 0, 0, 7, 5, 58, -7, 32, 64);
        Checks.cells("4", x, 4, 0, 0, 0, 0, 0, 6, 0, 16, 0);
        Checks.cells("5", x, 5, 6, 0, 0, 0, 0, 3, 0, 0, 0);
        Checks.cells("6", x, 6, 1, 0, 0, 0, 0, -1, 0, 0, 0);
        Checks.cells("7", x, 7, 1, 0, 0, 0, 0, 1, 0, 0, 0);
        Checks.cells("8", x, 8, 1, 0, 0, 0, 0, 0, 0, 0, 0);
        Checks.cells("15", x, 15, 0, 0, 0, 0, 4, 0, 0, 0, 0);
        AbcForms sign = Checks.music("=c c ^c-c", 4);
        Checks.cells("a = is written", sign, 7, 1, 0, 1, 0);
    }

    /** "9 notes of [ ] (of each; 1 alone, a GRACE, 0 no note), 10 its place there" */
    private static void thingNotes() {
        AbcForms x = Checks.tune(1, METER + "A[B][cde]{fg}zxZ|[K:C][M:C][L:1/8]", 14);
        Checks.cells("9", x, 9, 1, 1, 3, 3, 3, 1, 1, 0, 0, 0, 0, 0, 0, 0);
        Checks.cells("10", x, 10, 0, 0, 0, 1, 2, 0, 0, 0, 0, 0, 0, 0, 0, 0);
        AbcForms twelve = Checks.music("[CDEFGABcdefg]", 12);
        for (int i = 0; i < 12; i++) {
            Checks.due("twelve", twelve.thing(i, 9), 12);
            Checks.due("its place", twelve.thing(i, 10), i);
        }
    }

    /** "12 words above, and in ! !, before it, 13 slurs that begin before it, 14 that end behind it (..; 11 to 14 of [ ]: of its first note)" */
    private static void thingMarks() {
        AbcForms x = Checks.music(".\"\"!a!((v[ce])z\"x\"|[V:2]){g}~A", 6);
        Checks.cells("11", x, 11, 129, 0, 0, 0, 0, 2);
        Checks.cells("12", x, 12, 2, 0, 0, 0, 0, 1);
        Checks.cells("13", x, 13, 2, 0, 0, 0, 0, 0);
        Checks.cells("14, that of the latest timed of all VOICES", x, 14, 1, 0, 1, 0, 0, 0);
        AbcForms all = Checks.music("HvPTMu~.A", 1);
        Checks.due("all ornaments", all.thing(0, 11), 255);
        AbcForms many = Checks.music(Checks.times("\"a\"", 300) + "A", 1);
        Checks.due("many words", many.thing(0, 12), 300);
    }

    /** "16 the place in the text" */
    private static void thingPlaces() {
        AbcForms x = Checks.tune(1, METER + "  ^A [_Bc] {=d}|: Z [K:C]\nM:C", 8);
        Checks.cells("16", x, 16, 26, 30, 32, 36, 39, 42, 44, 50);
        String last = Checks.HEADS + Checks.times(" ", 2000 - Checks.HEADS.length() - 1) + "A";
        Checks.due("the last byte of all", Checks.tune(1, last, 1).thing(0, 16), 1999);
    }

    /** "Its time in TICKS (0: none). BAD: none such." */
    private static void time() {
        AbcForms x = Checks.tune(1, METER + "A2[B/c3]{d4}z3xZ2|[K:C][M:C][L:1/8]", 11);
        Checks.times("times", x, 2 * E, E / 2, 3 * E, 0, 3 * E, E, 16 * E, 0, 0, 0, 0);
        int[] wrong = {-1, 11, 400, LEAST, MOST};
        for (int i = 0; i < wrong.length; i++) {
            Checks.due("time(" + wrong[i] + ")", x.time(wrong[i]), BAD);
        }
    }

    /** "When it begins, in its VOICE. BAD: none such." */
    private static void start() {
        AbcForms x = Checks.tune(1, METER + "A2[B/c3]{d4}z3[V:2]x[V:1]Z2|[K:C][M:C][L:1/8]", 11);
        Checks.starts("starts", x, 0, 2 * E, 2 * E, E * 5 / 2, E * 5 / 2, 0, E * 11 / 2, E * 43 / 2, E * 43 / 2, E * 43 / 2, E * 43 / 2);
        int[] wrong = {-1, 11, 400, LEAST, MOST};
        for (int i = 0; i < wrong.length; i++) {
            Checks.due("start(" + wrong[i] + ")", x.start(wrong[i]), BAD);
        }
        AbcForms far = Checks.tune(1, "X:1\nT:a\nM:32/1\nK:C\n" + Checks.times("Z16", 18), 18);
        Checks.due("more than an int has", far.start(17), 17L * 512 * 8 * E);
    }

    /** "How many MEASURES a VOICE (1 .. 3) has; those that are begun, too. BAD: none such." */
    private static void measures() {
        AbcForms x = Checks.music("A|B|[V:2]c", 5);
        Checks.due("measures(1)", x.measures(1), 2);
        Checks.due("one that is begun", x.measures(2), 1);
        Checks.due("a VOICE that never was at hand", x.measures(3), 0);
        int[] wrong = {0, 4, -1, LEAST, MOST};
        for (int i = 0; i < wrong.length; i++) {
            Checks.due("measures(" + wrong[i] + ")", x.measures(wrong[i]), BAD);
        }
        Checks.read(x, Checks.HEADS);
        Checks.due("an earlier tune's are gone", x.measures(1), 0);
    }

    /** "Whether a MEASURE is FULL. BAD: none such." */
    private static void full() {
        AbcForms x = Checks.tune(0, METER + "A8|B7|[V:2]c9", 5);
        Checks.due("full(1, 0)", x.full(1, 0), 1);
        Checks.due("full(1, 1)", x.full(1, 1), 0);
        Checks.due("full(2, 0)", x.full(2, 0), 0);
        Checks.due("full(1, 2)", x.full(1, 2), BAD);
        Checks.due("full(2, 1)", x.full(2, 1), BAD);
        Checks.due("full(3, 0)", x.full(3, 0), BAD);
        int[] wrong = {-1, 4, 300, LEAST, MOST};
        for (int i = 0; i < wrong.length; i++) {
            Checks.due("full(1, " + wrong[i] + ")", x.full(1, wrong[i]), BAD);
            Checks.due("full(" + wrong[i] + ", 0)", x.full(wrong[i], 0), BAD);
        }
        Checks.due("full(0, 0)", x.full(0, 0), BAD);
    }

    /** "How long a MEASURE is, in TICKS. BAD: none such." */
    private static void length() {
        AbcForms x = Checks.tune(0, METER + "A8|B7|[V:2]c9", 5);
        Checks.due("length(1, 0)", x.length(1, 0), 8 * E);
        Checks.due("length(1, 1)", x.length(1, 1), 7 * E);
        Checks.due("length(2, 0)", x.length(2, 0), 9 * E);
        Checks.due("length(1, 2)", x.length(1, 2), BAD);
        Checks.due("length(2, 1)", x.length(2, 1), BAD);
        Checks.due("length(3, 0)", x.length(3, 0), BAD);
        int[] wrong = {-1, 4, 300, LEAST, MOST};
        for (int i = 0; i < wrong.length; i++) {
            Checks.due("length(1, " + wrong[i] + ")", x.length(1, wrong[i]), BAD);
            Checks.due("length(" + wrong[i] + ", 0)", x.length(wrong[i], 0), BAD);
        }
        Checks.due("length(0, 0)", x.length(0, 0), BAD);
        AbcForms far = Checks.tune(0, "X:1\nT:a\nM:32/1\nK:C\n" + Checks.times("Z", 100), 100);
        Checks.due("more than an int has", far.length(1, 0), 100L * 32 * 8 * E);
    }

    /** "The i-th MEASURE that is PLAYED; - 1: how many. BAD: none such, no tune." */
    private static void played() {
        AbcForms x = Checks.music("|:A:|B", 4);
        Checks.due("played(-1)", x.played(-1), 3);
        Checks.due("played(0)", x.played(0), 0);
        Checks.due("played(2)", x.played(2), 1);
        int[] wrong = {-2, 3, 4, 999, 1000, LEAST, MOST};
        for (int i = 0; i < wrong.length; i++) {
            Checks.due("played(" + wrong[i] + ")", x.played(wrong[i]), BAD);
        }
        AbcForms none = Checks.music("[V:2]A", 1);
        Checks.due("none of VOICE 1", none.played(-1), 0);
        Checks.due("played(0) of none", none.played(0), BAD);
        Checks.read(none, Checks.HEADS + "?");
        Checks.due("no tune", none.played(-1), BAD);
    }

    /** What written() tells of the first things; nothing where it is BAD for all k. */
    private static void writtenRow(int rule, String text, String... want) {
        AbcForms x = new AbcForms(rule);
        Checks.due("read() of " + text, Checks.read(x, text), want.length);
        for (int i = 0; i < want.length; i++) {
            if (want[i].isEmpty()) {
                for (int k = -1; k < 4; k++) {
                    Checks.due("written(" + i + ", " + k + ") of " + text, x.written(i, k), BAD);
                }
            } else {
                Checks.written(x, i, want[i]);
            }
        }
    }

    /** "its sign, if it would be another without" */
    private static void writtenSigns() {
        String signs = Checks.HEADS + "^c ^c ^c' ^C =c _c __c ^^c | =c ^c";
        writtenRow(1, signs, "^c", "c", "^c'", "^C", "=c", "_c", "__c", "^^c", "", "c", "^c");
        writtenRow(0, signs, "^c", "c", "c'", "C", "=c", "_c", "__c", "^^c", "", "c", "^c");
        writtenRow(1, "X:1\nT:a\nK:D\n^c ^f =c c ^c ^F g ^^F", "c", "f", "=c", "c", "^c", "F", "g", "^^F");
        writtenRow(1, "X:1\nT:a\nK:Bb\n_b _B =b _b", "b", "B", "=b", "_b");
        writtenRow(1, Checks.HEADS + "^c-|^c =c", "^c", "", "c", "=c");
        writtenRow(1, Checks.HEADS + "^c-|=c c", "^c", "", "=c", "c");
        writtenRow(1, Checks.HEADS + "[^c^c=c]", "^c", "c", "=c");
        writtenRow(1, Checks.HEADS + "{^c}^c=c", "", "c", "=c");
        writtenRow(1, METER + "^cZ^c[K:D]|^c", "^c", "", "^c", "", "", "c");
        writtenRow(1, Checks.HEADS + "^c[V:2]^c[V:1]^c", "^c", "^c", "c");
    }

    /** "letter and octave" */
    private static void writtenLetters() {
        writtenRow(1, Checks.HEADS + "C D E F G A B c d e f g a b", "C", "D", "E", "F", "G", "A", "B", "c", "d", "e", "f", "g", "a", "b");
        writtenRow(1, Checks.HEADS + "C' c, C'' c,, C,' c',, B,,,,,''''' c'''',,,,,,,,,", "c", "C", "c'", "C,", "C", "C", "B", "C,,,,");
        writtenRow(1, Checks.HEADS + "C,,,,, ^^B,,,,,, g'''' __a''''", "C,,,,,", "^^B,,,,,,", "g''''", "__a''''");
    }

    /** "n, n/m in lowest terms, 1 not written, /m for 1/m, / for 1/2, n/ for n/2" */
    private static void writtenLengths() {
        for (int lower = 1; lower <= 64; lower = lower * 2) {
            for (int number = 1; number <= 64; number++) {
                int n = number;
                int m = lower;
                while (n % 2 == 0 && m % 2 == 0) {
                    n = n / 2;
                    m = m / 2;
                }
                String want = (n == 1 ? "A" : "A" + n) + (m == 1 ? "" : m == 2 ? "/" : "/" + m);
                writtenRow(0, Checks.HEADS + "A" + number + "/" + lower, want);
            }
        }
        writtenRow(0, Checks.HEADS + "A A/ A// A/// A//// A///// A////// A3/ A2/", "A", "A/", "A/4", "A/8", "A/16", "A/32", "A/64", "A3/", "A");
        writtenRow(0, Checks.HEADS + "A[L:1/4]A[L:1/64]A[L:1/1]A/8", "A", "", "A", "", "A", "", "A/8");
        writtenRow(0, "X:1\nT:a\nM:2/4\nK:C\nA[M:C]A[V:2][L:1/32]A[V:1]A", "A", "", "A", "", "A", "A");
    }

    /** "if it is no such one of 64 at most: BAD for all k" */
    private static void writtenOf64AtMost() {
        String small = "X:1\nT:a\nL:1/64\nK:C\n";
        writtenRow(0, small + "[A32]2 [A33]2 [A64]2 [A13]5 [A13/2]5/2 [A7]9", "A64", "", "", "", "", "A63");
        writtenRow(0, small + "[A/32]/2 [A3/32]/2 [A9/8]7/8", "A/64", "A3/64", "A63/64");
        writtenRow(0, Checks.HEADS + "[A/64]/2 [A3/64]/2 [A/64]/8 [A11/8]7/8 [A/32]/2", "", "", "", "", "A/64");
        writtenRow(0, Checks.HEADS + "(3ABc (5ABcde (7ABcdefg (9:8:1A (6:4:1A", "", "", "", "", "", "", "", "", "", "", "", "", "", "", "", "", "");
        writtenRow(0, Checks.HEADS + "(3A3B6c3/2 (9:6:1A3/4 (6:8:1A3", "A2", "B4", "c", "A/", "A4");
        writtenRow(0, Checks.HEADS + "[A2c/64e2]/2", "A", "", "e");
    }

    /** "(Its time as it is, without TUPLET and the like.)" */
    private static void writtenTimeAsItIs() {
        writtenRow(0, Checks.HEADS + "A>B A>>B A<<<B", "A3/", "B/", "A7/4", "B/4", "A/8", "B15/8");
        writtenRow(0, Checks.HEADS + "(2AB (4ABcd (8:4:1A", "A3/", "B3/", "A3/4", "B3/4", "c3/4", "d3/4", "A/");
        writtenRow(0, Checks.HEADS + "[A2c]/2>[e4g6]-", "A3/", "c3/4", "e2", "g3");
    }

    /** "BAD: no NOTE, no such k." */
    private static void writtenBad() {
        AbcForms x = Checks.tune(0, METER + "^A3/4zxZ|{b}[K:C][M:C][L:1/8]", 9);
        Checks.written(x, 0, "^A3/4");
        int[] wrong = {-2, 5, 6, 24, 25, LEAST, MOST};
        for (int i = 0; i < wrong.length; i++) {
            Checks.due("written(0, " + wrong[i] + ")", x.written(0, wrong[i]), BAD);
        }
        for (int i = 1; i <= 9; i++) {
            for (int k = -1; k <= 1; k++) {
                Checks.due("written(" + i + ", " + k + ")", x.written(i, k), BAD);
            }
        }
        int[] things = {-1, 9, 400, LEAST, MOST};
        for (int i = 0; i < things.length; i++) {
            Checks.due("written(" + things[i] + ", -1)", x.written(things[i], -1), BAD);
            Checks.due("written(" + things[i] + ", 0)", x.written(things[i], 0), BAD);
        }
    }
}
