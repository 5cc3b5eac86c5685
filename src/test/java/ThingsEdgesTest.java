/** Section 3 of the document, THINGS and PLAYED: for each sentence that names an edge, a test of its own. */
public final class ThingsEdgesTest {
    private static final long WHOLE = 1290240;
    private static final long E = WHOLE / 8;
    private static final String METER = "X:1\nT:a\nM:1/8\nL:1/8\nK:C\n";
    private static final String MOST = METER + Checks.times("Z16|", 18) + "Z12|";

    public static void main(String[] args) {
        sorts();
        voiceOneAtFirst();
        eachVoiceItsOwn();
        measures300();
        measures300ByNotes();
        aheadOfAllElse();
        measuresOfZ();
        barWithSomethingTimed();
        zEndsAllButTheLast();
        timeOfAMeasure();
        fullByTheMeterOfItsBeginning();
        barOfTheMeasureItEnds();
        barsBetween();
        startOfARepeat();
        endingsThatGo();
        backBehind();
        endBehind();
        toldAtMost();
        Checks.close();
    }

    /** "0 NOTE, 1 REST (z), 2 hidden one (x), 3 BARS of rest (Z), 4 BAR, 5 GRACE, 6 KEY, 7 METER, 8 UNIT (those told in MUSIC)" */
    private static void sorts() {
        AbcForms x = Checks.tune(1, METER + "AzxZ|{b}[K:G][M:3/4][L:1/4][ce]\nK:C\nM:C\nL:1/8", 14);
        Checks.cells("sorts", x, 0, 0, 1, 2, 3, 4, 5, 6, 7, 8, 0, 0, 6, 7, 8);
        Checks.due("those of the heads are none", Checks.tune(1, METER, 0).head(7), 0);
        Checks.due("a V: is none", Checks.music("[V:2]\nV:3\n[V:1]", 0).head(7), 0);
        Checks.due("signs between are none", Checks.music(".\"a\"!b!()A-(2:2:1B", 2).head(7), 2);
    }

    /** "Each VOICE (1 at first)" */
    private static void voiceOneAtFirst() {
        AbcForms x = Checks.music("A[K:C]|{g}\nV:3\nA", 5);
        Checks.cells("voices", x, 1, 1, 1, 1, 1, 3);
        Checks.due("the greatest", x.head(8), 3);
        Checks.due("1 without V:", Checks.music("", 0).head(8), 1);
        Checks.due("one without anything", Checks.music("[V:2]", 0).head(8), 2);
        Checks.due("not the latest", Checks.music("[V:3][V:1]A", 1).head(8), 3);
    }

    /** "has its own time, KEY, METER, UNIT (those of the heads; a change is of the VOICE that is at hand), and MEASURES" */
    private static void eachVoiceItsOwn() {
        AbcForms x = Checks.tune(1, "X:1\nT:a\nM:2/4\nL:1/4\nK:G\nf[K:C][M:1/4][L:1/8]f|[V:2]fZ|[V:1]fZ\nV:3\nF", 12);
        Checks.cells("signs", x, 6, 1, 0, 0, 0, 0, 0, 1, 0, 0, 0, 0, 1);
        Checks.times("times", x, 2 * E, 0, 0, 0, E, 0, 2 * E, 4 * E, 0, E, 2 * E, 2 * E);
        Checks.starts("starts", x, 0, 2 * E, 2 * E, 2 * E, 2 * E, 3 * E, 0, 2 * E, 6 * E, 3 * E, 4 * E, 0);
        Checks.cells("measures", x, 2, 0, 0, 0, 0, 0, 0, 0, 0, 0, 1, 1, 0);
        Checks.due("of 1", x.measures(1), 2);
        Checks.due("of 2", x.measures(2), 1);
        Checks.due("of 3", x.measures(3), 1);
    }

    /** "MEASURES (300 at most: FAULT 2 at the first byte of the timed or Z that begins one more ..)" */
    private static void measures300() {
        int at = MOST.length();
        AbcForms x = Checks.tune(0, MOST, 38);
        Checks.due("300", x.measures(1), 300);
        Checks.due("the last one", x.length(1, 299), E);
        Checks.due("behind it", x.length(1, 300), AbcForms.BAD);
        Checks.due("a BAR behind it is of the next one", Checks.tune(0, MOST + " |", 39).thing(38, 2), 300);
        String[] more = {"A", "^A", "z", "x", "[A]", "Z", "Z2", "(3A", "{g}A", "\"x\"A"};
        int[] ahead = {0, 0, 0, 0, 0, 0, 0, 2, 3, 3};
        for (int i = 0; i < more.length; i++) {
            Checks.fault(MOST + more[i], 2, at + ahead[i]);
        }
        Checks.tune(0, MOST + " |:[V:2]" + Checks.times("Z16|", 18) + "Z12|[V:3]A", 39 + 38 + 1);
        Checks.fault(MOST + "[V:2]" + Checks.times("Z16|", 18) + "Z12|A", 2, at + 5 + 76);
    }

    /** "MEASURES (300 at most ..)", each begun by a note. */
    private static void measures300ByNotes() {
        String notes = METER + Checks.times("Z16|", 9) + Checks.times("Z6|", 1) + Checks.times("A|", 150);
        Checks.due("300 by notes", Checks.tune(0, notes, 20 + 300).measures(1), 300);
        Checks.fault(notes + "A", 2, notes.length());
        String open = METER + Checks.times("Z16|", 18) + "Z11|A";
        Checks.due("the 300th is begun", Checks.tune(0, open + "BczxZ", 44).measures(1), 300);
        Checks.fault(open + "|B", 2, open.length() + 1);
    }

    /** "ahead of all else in it" */
    private static void aheadOfAllElse() {
        int at = MOST.length();
        String[] wrong = {"^?", "A0", "C,,,,,,,", "[?", "[]", "z0", "x99", "Z0", "Z17"};
        for (int i = 0; i < wrong.length; i++) {
            Checks.fault(MOST + wrong[i], 2, at);
        }
        Checks.fault(MOST + "[M:none]Z", 2, at + 8);
        Checks.fault(MOST + "?", 1, at);
        Checks.fault(MOST + "{C,,,,,,,}A", 4, at + 1);
        String things = MOST + Checks.times("{A}", 362);
        Checks.fault(things + "A", 2, things.length());
        Checks.fault(things + "^?", 2, things.length());
        Checks.fault(MOST.substring(0, at - 1) + "A>B|c", 2, at - 1 + 4);
    }

    /** "of a Z all but its first one when its number was read" */
    private static void measuresOfZ() {
        String nearly = METER + Checks.times("Z16|", 18) + "Z11|";
        int at = nearly.length();
        Checks.due("Z", Checks.tune(0, nearly + "Z", 39).measures(1), 300);
        Checks.due("Z1", Checks.tune(0, nearly + "Z1", 39).measures(1), 300);
        Checks.fault(nearly + "Z2", 2, at);
        Checks.fault(nearly + "Z16", 2, at);
        Checks.fault(nearly + "Z0", 1, at + 1);
        Checks.fault(nearly + "Z17", 1, at + 1);
        Checks.fault(nearly + "Z2?", 2, at);
        Checks.fault(nearly + "[M:none]Z2", 1, at + 8);
        String open = METER + Checks.times("Z16|", 18) + "Z12";
        Checks.due("in one that is begun", Checks.tune(0, open + " Z Z1", 39).measures(1), 300);
        Checks.fault(open + " Z2", 2, open.length() + 1);
    }

    /** "numbered from 0 on; a BAR with something timed since the last one ends one" */
    private static void barWithSomethingTimed() {
        AbcForms x = Checks.music("|||A|||{g}|[K:C]|z:|::x[1[ce]|]", 17);
        Checks.cells("measures", x, 2, 0, 0, 0, 0, 1, 1, 1, 1, 1, 1, 1, 2, 2, 2, 3, 3, 3);
        Checks.due("measures", x.measures(1), 4);
        String[] bars = {"|", "||", "|]", "[|", "|:", ":|", "::", "[1", "|2", ":|3"};
        for (int i = 0; i < bars.length; i++) {
            AbcForms y = Checks.music("c " + bars[i] + " c " + bars[i] + " " + bars[i], 5);
            Checks.due("ended by " + bars[i], y.measures(1), 2);
            Checks.due("its length", y.length(1, 0), E);
        }
        Checks.due("graces are not timed", Checks.music("{A}|{B}|", 4).measures(1), 0);
        Checks.due("another VOICE's BAR ends none", Checks.music("A[V:2]|[V:1]A", 3).measures(1), 1);
    }

    /** "Z ends all of its but the last one, which the next BAR ends" */
    private static void zEndsAllButTheLast() {
        AbcForms x = Checks.tune(0, METER + "Z3A|A|Z2Z2|Z|A", 11);
        Checks.due("measures", x.measures(1), 3 + 1 + 3 + 1 + 1);
        long[] lengths = {1, 1, 2, 1, 1, 2, 1, 1, 1};
        for (int m = 0; m < lengths.length; m++) {
            Checks.due("length of " + m, x.length(1, m), lengths[m] * E);
            Checks.due("full of " + m, x.full(1, m), lengths[m] == 1 ? 1 : 0);
        }
        Checks.cells("measures", x, 2, 0, 2, 2, 3, 3, 4, 5, 6, 7, 7, 8);
    }

    /** "A MEASURE has the time of its timed (of [ ] that of the first; each one of a Z a METER)" */
    private static void timeOfAMeasure() {
        AbcForms x = Checks.tune(0, METER + "A2z3x4|[A2c3]|[A3c2]2{g8}|A>B|(3ABC|[M:3/8]Z2|", 21);
        long[] lengths = {9, 2, 6, 2, 2, 3, 3};
        for (int m = 0; m < lengths.length; m++) {
            Checks.due("length of " + m, x.length(1, m), lengths[m] * E);
        }
    }

    /** "it is FULL, if that is just the METER that its VOICE had when it began (its first timed; none: always FULL)" */
    private static void fullByTheMeterOfItsBeginning() {
        String heads = "X:1\nT:a\nM:3/8\nL:1/8\nK:C\n";
        AbcForms x = Checks.tune(0, heads + "AAA|AA|AAAA|A3|[M:2/8]AA|A[M:3/8]A|[M:none]A|A9[M:C]|A|A4>B4|z4x4", 35);
        int[] full = {1, 0, 0, 1, 1, 1, 1, 1, 0, 1, 1};
        Checks.due("measures", x.measures(1), full.length);
        for (int m = 0; m < full.length; m++) {
            Checks.due("full of " + m, x.full(1, m), full[m]);
        }
        Checks.due("a little less", Checks.tune(0, heads + "A63/64AA", 3).full(1, 0), 0);
        Checks.due("behind a grace", Checks.tune(0, heads + "{g}[M:1/8]A", 3).full(1, 0), 1);
        Checks.due("behind a BAR", Checks.tune(0, heads + "|[M:1/8]A", 3).full(1, 0), 1);
        Checks.due("without M:", Checks.music("A", 1).full(1, 0), 1);
        AbcForms voices = Checks.tune(0, heads + "[V:2][M:1/8]A|[V:1]A|AAA", 8);
        Checks.due("its VOICE's", voices.full(2, 0), 1);
        Checks.due("not another's", voices.full(1, 0), 0);
        Checks.due("its own", voices.full(1, 1), 1);
    }

    /** "A BAR is of the MEASURE that it ends, or of the next one." */
    private static void barOfTheMeasureItEnds() {
        AbcForms x = Checks.music("|A|:B:|", 5);
        Checks.cells("measures", x, 2, 0, 0, 0, 1, 1);
        AbcForms next = Checks.music("A|||B||[V:2]|A|", 8);
        Checks.cells("the next one", next, 2, 0, 0, 1, 1, 1, 0, 0, 0);
    }

    /** "Its BARS between two of them (ahead of the first, behind the last) tell: START ..; BACK ..; END ..; the last ENDING" */
    private static void barsBetween() {
        Checks.played("");
        Checks.played("|: :|");
        Checks.played("A|B", 0, 1);
        Checks.played("A| :| B", 0, 0, 1);
        Checks.played("A :| | B", 0, 0, 1);
        Checks.played("A|B {g} :| c", 0, 1, 0, 1, 2);
        Checks.played("A|B|:|:c:|", 0, 1, 2, 2);
        Checks.played("A|2 |1 B|c", 0, 1, 2);
        Checks.played("A|1 |2 B||c", 0, 2);
        Checks.played(":| A", 0);
        Checks.played("A[V:2]:|B:|[V:1]|c", 0, 1);
        Checks.played("A[V:2]|:B|1 [V:1]|c:|", 0, 1, 0, 1);
    }

    /** "At MEASURE m, if it was not come to by going back, and START is before it: the beginning is m, AGAIN no." */
    private static void startOfARepeat() {
        Checks.played("A|:B|c:|", 0, 1, 2, 1, 2);
        Checks.played("|:A:|B", 0, 0, 1);
        Checks.played("|:A|:B:|", 0, 1, 1);
        Checks.played("A::B:|", 0, 0, 1, 1);
        Checks.played("A::B::c:|d", 0, 0, 1, 1, 2, 2, 3);
        Checks.played("A:|B:|c:|", 0, 0, 1, 1, 2, 2);
        Checks.played("|:A|B||c|]d[|e:|", 0, 1, 2, 3, 4, 0, 1, 2, 3, 4);
        Checks.played("A|B|:|1c:|2d|:e:|", 0, 1, 2, 3, 4, 4);
        Checks.played("A|1B:|c|:d:|", 0, 1, 0, 2, 3, 3);
        Checks.played("A|1B:|c|:d|1e:|2f", 0, 1, 0, 2, 3, 4, 3, 5);
    }

    /** "1 goes when AGAIN is no, others when it is yes ..; if it does not go: m and those behind are passed over, up to the first with END .." */
    private static void endingsThatGo() {
        Checks.played("A|1B:|2c|d", 0, 1, 0, 2, 3);
        Checks.played("A|1B:|3c|d", 0, 1, 0, 2, 3);
        Checks.played("A|1B:|4c|d", 0, 1, 0, 2, 3);
        Checks.played("A[1B:|[2c|d", 0, 1, 0, 2, 3);
        Checks.played("|2A|B|c");
        Checks.played("|2A|B|]c", 2);
        Checks.played("|2A|B[|c", 2);
        Checks.played("|2A|B|:c", 2);
        Checks.played("|2A|B|1c", 2);
        Checks.played("|2A|B|3c|d");
        Checks.played("|2A|B:|c", 2);
        Checks.played("A|1B|c|d:|2e|f|]g", 0, 1, 2, 3, 0, 4, 5, 6);
        Checks.played("|1A|B", 0, 1);
        Checks.played("A|1B:|1c:|d", 0, 1, 0, 3);
    }

    /** "With BACK behind it: INSIDE no; if AGAIN was no: it is yes, on from the beginning; else AGAIN no, the beginning is the next one." */
    private static void backBehind() {
        Checks.played("A:|", 0, 0);
        Checks.played("A|B:|c|d:|e", 0, 1, 0, 1, 2, 3, 2, 3, 4);
        Checks.played("A|1B:|2c:|d|e:|", 0, 1, 0, 2, 3, 4, 3, 4);
        Checks.played("A|1B:|2c:|3d|e", 0, 1, 0, 2);
        Checks.played("A|1B:|2c:|3d||e", 0, 1, 0, 2, 4);
    }

    /** "Without BACK, with END behind it: if AGAIN and INSIDE are yes: AGAIN no, the beginning is the next one; INSIDE no." */
    private static void endBehind() {
        Checks.played("A|1B:|2c||d|e:|", 0, 1, 0, 2, 3, 4, 3, 4);
        Checks.played("A|1B:|2c|d|e:|", 0, 1, 0, 2, 3, 4);
        Checks.played("|:A|1B:|2c|d||e:|", 0, 1, 0, 2, 3, 4, 4);
        Checks.played("A||B:|c", 0, 1, 0, 1, 2);
        Checks.played("A|1B||c:|d", 0, 1, 2, 0, 2, 3);
        Checks.played("A|2B||c:|d", 0, 2, 0, 1, 2, 2, 3);
    }

    /** "1,000 are told at most." Four second endings, each of which makes all behind it be played once more, and 163 bars of rest. */
    private static void toldAtMost() {
        Checks.played(manyTimes(3), playedManyTimes(999));
        Checks.played(manyTimes(4), playedManyTimes(1000));
        Checks.played(manyTimes(5), playedManyTimes(1000));
        Checks.played(manyTimes(120), playedManyTimes(1000));
    }

    private static String manyTimes(int behind) {
        return Checks.times("A|2B||", 4) + Checks.times("Z16|", 10) + "Z3:|" + Checks.times("c|", behind);
    }

    /** The first so many: a pass without second endings, then one from each beginning with the first of them, then the rests alone. */
    private static int[] playedManyTimes(int count) {
        int[] row = new int[2000];
        int told = 0;
        for (int pass = 0; pass <= 5; pass++) {
            int ending = pass - 1;
            for (int m = Math.max(0, 2 * ending); m < 8 + 163; m++) {
                boolean second = m < 8 && m % 2 == 1;
                if (!second || m == 2 * ending + 1) {
                    row[told] = m;
                    told++;
                }
            }
        }
        for (int m = 8 + 163; told < 1500; m++) {
            row[told] = m;
            told++;
        }
        return java.util.Arrays.copyOf(row, count);
    }
}
