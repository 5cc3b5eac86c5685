/** Section 2 of the document, MUSIC: for each sentence that names an edge, a test of its own; faults of all sorts stand in FaultEdgesTest. */
public final class MusicEdgesTest {
    private static final long WHOLE = 1290240;
    private static final long E = WHOLE / 8;
    private static final String WHOLES = "X:1\nT:a\nL:1/1\nK:C\n";
    private static final String SMALL = "X:1\nT:a\nL:1/64\nK:C\n";
    private static final String METER = "X:1\nT:a\nM:4/4\nL:1/8\nK:C\n";

    public static void main(String[] args) {
        blanks();
        ticks();
        ticksOfChords();
        ticksWhenBroken();
        notes();
        lengths();
        slashes();
        timed();
        barsOfRest();
        tupletDigits();
        tupletTable();
        tupletsOverAll();
        tupletInAnother();
        slurs();
        brokenSigns();
        brokenPlaces();
        brokenBehind();
        graces();
        ornaments();
        words();
        bars();
        changes();
        signsByRule();
        signsSince();
        ties();
        pitches();
        Checks.close();
    }

    /** "in lines one behind the other; blanks between things count for nothing" */
    private static void blanks() {
        AbcForms x = Checks.music("   A   B|  c  \n   (3 d  e   f  \\\n ( g  ) {a}  ", 9);
        Checks.times("over lines and blanks", x, E, E, 0, E, E * 2 / 3, E * 2 / 3, E * 2 / 3, E, 0);
        Checks.musicFault("A 2", 1, 2);
        Checks.musicFault("A '", 1, 2);
        Checks.musicFault("^ A", 1, 1);
        Checks.musicFault("A -", 1, 2);
        Checks.musicFault("A/ 2", 1, 3);
        Checks.musicFault("[A]  2", 1, 5);
        Checks.musicFault("( 3AAA", 1, 2);
        Checks.musicFault("(3 :2AAA", 1, 3);
        Checks.musicFault("! a!", 1, 1);
        Checks.musicFault("| 1", 1, 2);
        Checks.musicFault("[ 1", 1, 1);
        Checks.music("A :|", 2);
        Checks.musicFault("A : |", 1, 2);
        Checks.fault(METER + "Z 2", 1, METER.length() + 2);
    }

    /** "each time (but a Z's) is a whole number of TICKS above 0, 8 wholes at most: else FAULT 4 at the THING" */
    private static void ticks() {
        Checks.due("8 wholes", Checks.tune(0, WHOLES + "A8", 1).time(0), 8 * WHOLE);
        Checks.due("8 wholes of rest", Checks.tune(0, WHOLES + "x8", 1).time(0), 8 * WHOLE);
        Checks.fault(WHOLES + "A9", 4, 18);
        Checks.fault(WHOLES + "z9", 4, 18);
        Checks.fault(WHOLES + "x64", 4, 18);
        Checks.fault(WHOLES + "| ^A17/2", 4, 20);
        Checks.due("the nearest below", Checks.tune(0, WHOLES + "A15/2", 1).time(0), WHOLE * 15 / 2);
        Checks.due("by a TUPLET", Checks.tune(0, WHOLES + "(3A12zz", 3).time(0), 8 * WHOLE);
        Checks.fault(WHOLES + "(3A13zz", 4, 20);
        Checks.due("the least", Checks.tune(0, SMALL + "A/64", 1).time(0), 315);
        Checks.due("odd by a TUPLET", Checks.tune(0, SMALL + "(9A/64zzzzzzzz", 9).time(0), 70);
        Checks.fault(SMALL + "(2A/64z", 4, 21);
        Checks.fault(SMALL + "(8A/64", 4, 21);
        Checks.fault(SMALL + "(4 z/64", 4, 22);
        Checks.due("a Z's", Checks.tune(0, "X:1\nT:a\nM:32/1\nK:C\nZ16", 1).time(0), 512 * WHOLE);
        Checks.due("a Z's of nine wholes", Checks.tune(0, "X:1\nT:a\nM:9/1\nK:C\nZ", 1).time(0), 9 * WHOLE);
    }

    /** "(of [ ]: at the first such note), when all of the timed was read (with its TUPLET and what > or < before it does)" */
    private static void ticksOfChords() {
        AbcForms x = Checks.tune(0, WHOLES + "[A2c8]/2 [A2c4]2", 4);
        Checks.times("a chord's", x, WHOLE, 4 * WHOLE, 4 * WHOLE, 8 * WHOLE);
        Checks.due("a note's own may be more", Checks.tune(0, WHOLES + "[A64]/8", 1).time(0), 8 * WHOLE);
        Checks.fault(WHOLES + "[A^c9e9]", 4, 20);
        Checks.fault(WHOLES + "[A2c4e5^g6]2", 4, 23);
        Checks.fault(WHOLES + "[A9c9?]", 1, 23);
        Checks.fault(WHOLES + "[A9c0]", 1, 22);
        Checks.fault(WHOLES + "[A9c", 1, 22);
        Checks.fault(WHOLES + "[A9c]0", 1, 23);
        Checks.fault(WHOLES + "[A9c]-?", 4, 19);
        Checks.fault(SMALL + "(8[A8c/64]", 4, 24);
        Checks.fault(SMALL + "[A/64c]/2", 4, 20);
        Checks.fault(WHOLES + "A<B6", 4, 20);
        Checks.fault(WHOLES + "A<[B4c6]", 4, 23);
        Checks.due("what > does before it", Checks.tune(0, WHOLES + "A>B16", 2).time(1), 8 * WHOLE);
        Checks.fault(WHOLES + "A>B17", 4, 20);
    }

    /** "and again when a > or < behind changes it"; "Then the one before changes (FAULT 4), then the one behind is read." */
    private static void ticksWhenBroken() {
        Checks.due("just 8", Checks.tune(0, WHOLES + "(3A8>BC", 3).time(0), 8 * WHOLE);
        Checks.fault(WHOLES + "A8>B", 4, 18);
        Checks.fault(WHOLES + "A8>B0", 4, 18);
        Checks.fault(WHOLES + "A8>^", 4, 18);
        Checks.fault(WHOLES + "A8>[?", 4, 18);
        Checks.fault(WHOLES + "A8>|", 5, 21);
        Checks.fault(WHOLES + "A8>", 5, 21);
        Checks.fault(WHOLES + "[A^c8e8]>B", 4, 20);
        Checks.fault(SMALL + "A/64<B", 4, 19);
        Checks.fault(SMALL + "A/64>B", 4, 19);
        Checks.fault(SMALL + "A>>B/64", 4, 22);
        Checks.fault(WHOLES + "A>B16>c", 4, 20);
        Checks.due("8 after all", Checks.tune(0, WHOLES + "A8<B", 2).time(0), 4 * WHOLE);
        Checks.fault(WHOLES + "(3A9>BC", 4, 20);
    }

    /** "note = ['^^' | '^' | '=' | '_' | '__'] letter (A .. G; a .. g one octave above) {' | ,}" */
    private static void notes() {
        AbcForms x = Checks.music("^^A ^A =A _A __A", 5);
        Checks.cells("signs", x, 6, 2, 1, 0, -1, -2);
        String[] wrong = {"^^^A", "___A", "==A", "^_A", "_^A", "=^A", "^=A"};
        int[] place = {2, 2, 1, 1, 1, 1, 1};
        for (int i = 0; i < wrong.length; i++) {
            Checks.musicFault(wrong[i], 1, place[i]);
        }
        AbcForms all = Checks.music("ABCDEFG abcdefg", 14);
        Checks.cells("letters", all, 4, 5, 6, 0, 1, 2, 3, 4, 5, 6, 0, 1, 2, 3, 4);
        Checks.cells("octaves", all, 5, 4, 4, 4, 4, 4, 4, 4, 5, 5, 5, 5, 5, 5, 5);
        Checks.cells("pitches", all, 3, 69, 71, 60, 62, 64, 65, 67, 81, 83, 72, 74, 76, 77, 79);
        Checks.musicFault("^h", 1, 1);
        Checks.musicFault("^@", 1, 1);
        Checks.musicFault("^", 1, 1);
        AbcForms octaves = Checks.music("C, C' c, c' C,' C',' c,,,'", 7);
        Checks.cells("octaves", octaves, 5, 3, 5, 4, 6, 4, 5, 3);
        Checks.due("up and down", Checks.music("C" + Checks.times("'", 990) + Checks.times(",", 990), 1).thing(0, 5), 4);
    }

    /** "numbers 1 .. 64, behind a / one of 1, 2, 4 .. 64" */
    private static void lengths() {
        for (int number = 0; number <= 130; number++) {
            boolean told = number >= 1 && number <= 64;
            boolean power = number == 1 || number == 2 || number == 4 || number == 8 || number == 16 || number == 32 || number == 64;
            oneLength("A" + number, told, 1, E * number);
            oneLength("A" + number + "/", told, 1, E * number / 2);
            oneLength("A3/" + number, power, 3, number > 0 ? E * 3 / number : 0);
            oneLength("A/" + number, power, 2, number > 0 ? E / number : 0);
        }
        String[] far = {"4294967297", "18446744073709551617", "00", "000"};
        for (int i = 0; i < far.length; i++) {
            Checks.musicFault("A" + far[i], 1, 1);
            Checks.musicFault("A2/" + far[i], 1, 3);
            Checks.musicFault("A/" + far[i], 1, 2);
            Checks.musicFault("z" + far[i], 1, 1);
            Checks.musicFault("[A]" + far[i], 1, 3);
            Checks.musicFault("{A" + far[i] + "}", 1, 2);
        }
        Checks.due("nothing", Checks.music("A", 1).time(0), E);
        Checks.due("64/64", Checks.music("A64/64", 1).time(0), E);
        Checks.due("1/64", Checks.music("A1/64", 1).time(0), E / 64);
        Checks.musicFault("A1/2/", 1, 4);
        Checks.musicFault("A1//", 1, 3);
        Checks.musicFault("A/2/", 1, 3);
        Checks.musicFault("A//2", 1, 3);
    }

    private static void oneLength(String note, boolean told, int place, long time) {
        if (told) {
            Checks.due("time of " + note, Checks.music(note, 1).time(0), time);
        } else {
            Checks.musicFault(note, 1, place);
        }
    }

    /** "nothing behind it: 2, each more / twice that (64 at most)" */
    private static void slashes() {
        for (int count = 1; count <= 6; count++) {
            AbcForms x = Checks.music("A" + Checks.times("/", count) + " z" + Checks.times("/", count) + "[ce]" + Checks.times("/", count), 4);
            Checks.times("slashes", x, E >> count, E >> count, E >> count, E >> count);
        }
        Checks.musicFault("A///////", 1, 7);
        Checks.musicFault("x///////", 1, 7);
        Checks.musicFault("[c]///////", 1, 9);
        Checks.musicFault("[c///////]", 1, 8);
        Checks.musicFault("{c///////}", 1, 8);
        Checks.musicFault("A////////", 1, 7);
        Checks.due("n/", Checks.music("A64/", 1).time(0), 32 * E);
    }

    /** "timed = note ['-'] | '[' note {note} ']' [length] ['-'] | ('z' | 'x') [length]" */
    private static void timed() {
        Checks.music("A- A2- [A]- [A2]2- z2 x2", 6);
        Checks.musicFault("A--", 1, 2);
        Checks.musicFault("A-2", 1, 2);
        Checks.musicFault("[A-]", 1, 2);
        Checks.musicFault("[]", 1, 1);
        Checks.musicFault("[z]", 1, 1);
        Checks.musicFault("[Az]", 1, 2);
        Checks.musicFault("[[A]]", 1, 1);
        Checks.musicFault("z-", 1, 1);
        Checks.musicFault("x-", 1, 1);
        Checks.musicFault("^z", 1, 1);
        Checks.musicFault("z'", 1, 1);
        AbcForms x = Checks.music("[A3c2]2 B", 3);
        Checks.times("each note's own times that behind ]", x, 6 * E, 4 * E, E);
        Checks.starts("the time of it all is that of the first", x, 0, 0, 6 * E);
    }

    /** "Z [number 1 .. 16]: so many bars: a rest of so many meters (without meter: FAULT 1 at Z ..); no timed." */
    private static void barsOfRest() {
        for (int number = 0; number <= 20; number++) {
            if (number >= 1 && number <= 16) {
                AbcForms x = Checks.tune(0, METER + "Z" + number, 1);
                Checks.due("Z" + number, x.time(0), number * WHOLE);
                Checks.due("number of Z" + number, x.thing(0, 3), number);
                Checks.due("measures of Z" + number, x.measures(1), number);
            } else {
                Checks.fault(METER + "Z" + number, 1, METER.length() + 1);
            }
        }
        Checks.due("Z alone", Checks.tune(0, METER + "Z", 1).thing(0, 3), 1);
        Checks.fault(METER + "Z4294967297", 1, METER.length() + 1);
        Checks.fault(METER + "Z2/", 1, METER.length() + 2);
        Checks.fault(METER + "Z-", 1, METER.length() + 1);
        Checks.musicFault("A Z", 1, 2);
        Checks.musicFault("Z0", 1, 0);
        Checks.fault(METER + "[M:none]Z", 1, METER.length() + 8);
        Checks.due("a meter told later", Checks.music("[M:3/8]Z2", 2).time(1), 6 * E);
        Checks.fault(METER + "Z>A", 5, METER.length() + 1);
        Checks.fault(METER + "A>Z", 5, METER.length() + 2);
        Checks.fault(METER + "(2AZ", 6, METER.length() + 4);
        AbcForms x = Checks.tune(0, METER + "(.Z)A", 2);
        Checks.cells("slurs begin at the next timed", x, 13, 0, 1);
        Checks.cells("none ends behind a Z", x, 14, 0, 0);
        Checks.cells("ornaments", x, 11, 0, 1);
    }

    /** "( digit p 2 .. 9 [':' [digit q 1 .. 9] [':' [digit r 1 .. 9]]]"; "A digit 0, 1: FAULT 1 at it" */
    private static void tupletDigits() {
        String head = "X:1\nT:a\nL:1/4\nK:C\n";
        for (int p = 2; p <= 9; p++) {
            for (int q = 1; q <= 9; q++) {
                AbcForms x = Checks.tune(0, head + "(" + p + ":" + q + Checks.times("A", p + 1), p + 1);
                Checks.due("the first of (" + p + ":" + q, x.time(0), 2 * E * q / p);
                Checks.due("the last of (" + p + ":" + q, x.time(p - 1), 2 * E * q / p);
                Checks.due("behind (" + p + ":" + q, x.time(p), 2 * E);
            }
            for (int r = 1; r <= 9; r++) {
                AbcForms x = Checks.tune(0, head + "(" + p + ":2:" + r + Checks.times("A", r + 1), r + 1);
                Checks.due("the last of (" + p + ":2:" + r, x.time(r - 1), 4 * E / p);
                Checks.due("behind (" + p + ":2:" + r, x.time(r), 2 * E);
                Checks.due("(" + p + "::" + r, Checks.tune(0, head + "(" + p + "::" + r + Checks.times("A", r), r).head(7), r);
            }
            Checks.fault(head + "(" + p + ":0", 1, 21);
            Checks.fault(head + "(" + p + ":2:0", 1, 23);
            Checks.fault(head + "(" + p + "::0", 1, 22);
            Checks.fault(head + "(" + p + Checks.times("A", p - 1), 6, 19 + p);
        }
        Checks.musicFault("(0AA", 1, 1);
        Checks.musicFault("(1AA", 1, 1);
        Checks.musicFault("(10A", 1, 1);
        Checks.musicFault("(22A", 1, 2);
        Checks.musicFault("(3:10", 1, 4);
        Checks.musicFault("(3:2:10", 1, 6);
        Checks.musicFault("(3:2:1:", 1, 6);
        Checks.times("(3:", Checks.music("(3:AAAA", 4), E * 2 / 3, E * 2 / 3, E * 2 / 3, E);
        Checks.times("(3::", Checks.music("(3::AAAA", 4), E * 2 / 3, E * 2 / 3, E * 2 / 3, E);
        Checks.times("(3:2:", Checks.music("(3:2:AAAA", 4), E * 2 / 3, E * 2 / 3, E * 2 / 3, E);
        Checks.cells("as far as it goes", Checks.music("(2:|AA", 3), 3, 0, 69, 69);
        Checks.cells("as far as it goes", Checks.music("(2::::AA", 3), 3, 6, 69, 69);
        Checks.musicFault("(2:::AA", 1, 4);
    }

    /** "q without: 2 for 3, 6; 3 for 2, 4, 8; for 5, 7, 9: 3 with a meter (of the VOICE there) of 6, 9, 12 over 8, else 2" */
    private static void tupletTable() {
        for (int p = 2; p <= 9; p++) {
            for (int number = 0; number <= 32; number++) {
                for (int lower = 4; lower <= 16; lower = lower * 2) {
                    String meter = number == 0 ? "none" : number + "/" + lower;
                    boolean eights = lower == 8 && (number == 6 || number == 9 || number == 12);
                    int q = p == 3 || p == 6 ? 2 : p == 2 || p == 4 || p == 8 ? 3 : eights ? 3 : 2;
                    String text = "X:1\nT:a\nM:" + meter + "\nL:1/8\nK:C\n(" + p + Checks.times("A", p);
                    AbcForms x = new AbcForms(0);
                    Checks.due("read() of " + text, Checks.read(x, text), p);
                    Checks.due("(" + p + " in " + meter, x.time(p - 1), E * q / p);
                }
            }
        }
        AbcForms voices = Checks.music("[V:2][M:9/8][V:1](5::1A[V:2](5::1A[M:C|](7::1A", 5);
        Checks.times("of the VOICE there", voices, 0, E * 2 / 5, E * 3 / 5, 0, E * 2 / 7);
    }

    /** "the next r (else p) timed of the text (over V: too) have their times q / p" */
    private static void tupletsOverAll() {
        AbcForms x = Checks.music("(3A|{g}[V:2][ce]\nV:3\n[K:C] ( \"x\" z ) [V:1] B", 8);
        Checks.times("over bars, graces, changes, slurs, VOICES", x, E * 2 / 3, 0, 0, E * 2 / 3, E * 2 / 3, 0, E * 2 / 3, E);
        AbcForms bars = Checks.tune(0, METER + "(2AZ2x B", 4);
        Checks.times("a Z is none", bars, E * 3 / 2, 2 * WHOLE, E * 3 / 2, E);
        AbcForms change = Checks.music("(3A[L:1/4]AA", 4);
        Checks.times("a unit told within", change, E * 2 / 3, 0, E * 4 / 3, E * 4 / 3);
    }

    /** "one in another: FAULT 5 at the ( , when p was read" */
    private static void tupletInAnother() {
        Checks.musicFault("(3AB(3C", 5, 4);
        Checks.musicFault("(3(3C", 5, 2);
        Checks.musicFault("(3AB(3:0", 5, 4);
        Checks.musicFault("(3AB(33", 5, 4);
        Checks.musicFault("(3AB(0", 1, 5);
        Checks.musicFault("(3AB(1", 1, 5);
        Checks.music("(3ABC(3ABC", 6);
        Checks.music("(3:2:1A(2AB", 3);
        Checks.musicFault("(2:2:3AB(2AB", 5, 8);
        Checks.music("(3A(BC)", 3);
    }

    /** "(four may be open, a fifth ( is FAULT 5 at it; a ) without one: FAULT 5 at it; a ) ahead of all timed is behind none)" */
    private static void slurs() {
        AbcForms four = Checks.music("((((A))))", 1);
        Checks.due("four begin", four.thing(0, 13), 4);
        Checks.due("four end", four.thing(0, 14), 4);
        Checks.musicFault("(((((A", 5, 4);
        Checks.musicFault("((((A (", 5, 6);
        Checks.musicFault("(((([V:2](", 5, 9);
        Checks.music("((((A)(B))))", 2);
        Checks.music("(((((3ABC))))", 3);
        Checks.musicFault("(((((0", 1, 5);
        Checks.musicFault("(((((1", 1, 5);
        Checks.musicFault("A)", 5, 1);
        Checks.musicFault(")", 5, 0);
        Checks.musicFault("(A))", 5, 3);
        Checks.musicFault("(3A)BC", 5, 3);
        AbcForms none = Checks.music("()(A)", 1);
        Checks.due("both begin before it", none.thing(0, 13), 2);
        Checks.due("one ends behind it", none.thing(0, 14), 1);
        AbcForms bar = Checks.music("A(|){g}(z)", 4);
        Checks.cells("behind the latest timed", bar, 14, 1, 0, 0, 1);
        Checks.cells("before the next", bar, 13, 0, 0, 0, 2);
        Checks.musicFault("(A", 6, 2);
        Checks.musicFault("(A)(", 6, 4);
    }

    /** "> or < , once to three times ..: the one before gets 2 - 1/2^k, the one behind 1/2^k of its time (< the other way round)" */
    private static void brokenSigns() {
        Checks.times("one to three", Checks.music("A>B A>>B A>>>B", 6), E * 3 / 2, E / 2, E * 7 / 4, E / 4, E * 15 / 8, E / 8);
        Checks.times("the other way", Checks.music("A<B A<<B A<<<B", 6), E / 2, E * 3 / 2, E / 4, E * 7 / 4, E / 8, E * 15 / 8);
        Checks.musicFault("A>>>>B", 5, 4);
        Checks.musicFault("A<<<<B", 5, 4);
        Checks.musicFault("A><B", 5, 2);
        Checks.musicFault("A<>B", 5, 2);
        Checks.musicFault("A> >B", 5, 3);
        AbcForms chords = Checks.music("[A2c3]>[e2g4] [A2c3]<[e2g4]", 8);
        Checks.times("of a chord all notes change", chords, 3 * E, E * 9 / 2, E, 2 * E, E, E * 3 / 2, 3 * E, 6 * E);
        Checks.due("the measure's", chords.length(1, 0), 8 * E);
        AbcForms chain = Checks.music("A>B>c<z", 4);
        Checks.times("a chain", chain, E * 3 / 2, E * 3 / 4, E / 4, E * 3 / 2);
        Checks.starts("a chain", chain, 0, E * 3 / 2, E * 9 / 4, E * 5 / 2);
        Checks.times("in a TUPLET", Checks.music("(3A>BC>D", 4), E, E / 3, E, E / 2);
    }

    /** "between two timed (with blanks alone between, in one line)"; "Not right behind a timed: FAULT 5 at its first sign" */
    private static void brokenPlaces() {
        Checks.music("A  >  B z>x [A]->[A] A/->A", 8);
        String[] between = {"|", "{g}", ".", "\"x\"", "!x!", "[K:C]", "[V:1]", "[1", "\n", "  \\\n", "%x\n"};
        for (int i = 0; i < between.length; i++) {
            Checks.musicFault("A" + between[i] + ">>B", 5, 1 + between[i].length());
        }
        Checks.musicFault("(A)>B", 5, 3);
        Checks.musicFault("A(>B", 5, 2);
        Checks.musicFault("A(3>B", 5, 3);
        Checks.musicFault(">A", 5, 0);
        Checks.musicFault("  <<<A", 5, 2);
        Checks.musicFault(">>>>", 5, 0);
        Checks.musicFault("|\n>", 5, 2);
    }

    /** "if what stands behind begins no timed (..): FAULT 5 at it (a line's end, too)" */
    private static void brokenBehind() {
        String[] timed = {"B", "b", "^B", "_b", "=c", "__c", "z", "x", "[B]"};
        for (int i = 0; i < timed.length; i++) {
            Checks.music("A>" + timed[i], 2);
            Checks.music("A<  " + timed[i], 2);
        }
        String[] other = {"|", ":|", "::", "[|", "[1", "[4", "[K:C]", "[V:1]", "[M:C]", "[L:1/8]", "Z", "{g}B", "(B)", ")", "(3BBB", ".B", "~B", "HB",
            "\"x\"B", "!x!B", "?", "2", "-", "]", ":", "}", "Q"};
        for (int i = 0; i < other.length; i++) {
            Checks.musicFault("A>" + other[i], 5, 2);
            Checks.musicFault("A>>  " + other[i], 5, 5);
        }
        String[] ends = {"", "\n", "\nB", "  \nB", "%B\nB", "  %", "\\\nB"};
        for (int i = 0; i < ends.length; i++) {
            Checks.musicFault("A>" + ends[i], 5, 2);
        }
        Checks.musicFault("A>  \\\nB", 5, 4);
        Checks.musicFault("A>[5", 1, 3);
        Checks.musicFault("A>[Q:1]", 1, 3);
        Checks.musicFault("A>[K]", 1, 3);
        Checks.musicFault("A>[]", 1, 3);
        Checks.musicFault("A>^", 1, 3);
    }

    /** "{ note {note} }: graces, lengths of theirs count for nothing (but are read)" */
    private static void graces() {
        AbcForms x = Checks.music("A{B64c/64d3/2}A", 5);
        Checks.times("times", x, E, 0, 0, 0, E);
        Checks.starts("starts", x, 0, E, E, E, E);
        Checks.cells("notes", x, 9, 1, 1, 1, 1, 1);
        Checks.due("the measure's", x.length(1, 0), 2 * E);
        Checks.tune(0, WHOLES + "{A64}", 1);
        Checks.tune(0, SMALL + "(8{A/64}AAAAAAAA", 9);
        Checks.musicFault("{}", 1, 1);
        Checks.musicFault("{A", 1, 2);
        Checks.musicFault("{A-}", 1, 2);
        Checks.musicFault("{z}", 1, 1);
        Checks.musicFault("{[A]}", 1, 1);
        Checks.musicFault("{A65}", 1, 2);
        Checks.musicFault("{A/3}", 1, 3);
        Checks.musicFault("{A}2", 1, 3);
        Checks.musicFault("}", 1, 0);
        Checks.due("eight", Checks.music("{CDEFGABc}", 8).thing(7, 0), 5);
        Checks.due("graces begin no measure", Checks.music("{A}|", 2).measures(1), 0);
    }

    /** "Ornaments: . ~ H T M P u v ..  They belong to the next timed of the text." */
    private static void ornaments() {
        String signs = ".~HTMPuv";
        for (int i = 0; i < 8; i++) {
            AbcForms x = Checks.music(signs.charAt(i) + "A" + signs.charAt(i) + signs.charAt(i) + "[Bc]", 3);
            Checks.cells("ornament " + signs.charAt(i), x, 11, 1 << i, 1 << i, 0);
        }
        AbcForms far = Checks.music(".~|{g}H[V:2]\n[K:C] T z.", 4);
        Checks.cells("over bars, graces, changes, lines", far, 11, 0, 0, 0, 15);
        AbcForms later = Checks.music(". \"x\"", 0);
        Checks.due("none comes", later.head(7), 0);
        String wrong = "hIJKLNOQRSUVWXYijklmnopqrstwy";
        for (int i = 0; i < wrong.length(); i++) {
            Checks.musicFault(wrong.charAt(i) + "A", 1, 0);
        }
    }

    /** "! , letters (1 .. 12), ! ; \" any (0 .. 20) \": a word above" */
    private static void words() {
        for (int size = 0; size <= 22; size++) {
            String mark = "!" + Checks.times("k", size) + "!";
            String word = "\"" + Checks.times("?", size) + "\"";
            if (size >= 1 && size <= 12) {
                Checks.due("a mark of " + size, Checks.music(mark + "A", 1).thing(0, 12), 1);
            } else {
                Checks.musicFault(mark + "A", 1, size == 0 ? 1 : 13);
            }
            if (size <= 20) {
                Checks.due("a word of " + size, Checks.music(word + "A", 1).thing(0, 12), 1);
            } else {
                Checks.musicFault(word + "A", 1, 21);
            }
        }
        String notLetters = "@[`{ 1\"";
        for (int i = 0; i < notLetters.length(); i++) {
            Checks.musicFault("!a" + notLetters.charAt(i) + "!", 1, 2);
        }
        Checks.due("letters", Checks.music("!AZaz!\" !~[]\\\"A", 1).thing(0, 12), 2);
        Checks.musicFault("!a", 1, 2);
        Checks.musicFault("!abcdefghijkl", 1, 13);
        Checks.musicFault("\"", 1, 1);
        Checks.musicFault("\"12345678901234567890", 1, 21);
        Checks.musicFault("\"a  \n\"", 1, 2);
        Checks.musicFault("\"a\\\n\"", 1, 2);
    }

    /** "Bars: | || |] [| |: :| :: and, behind | :| or [ , a digit 1 .. 4 (an ending); the longest that is there." */
    private static void bars() {
        String[] signs = {"|", "||", "|]", "[|", "|:", ":|", "::", "["};
        for (int i = 0; i < signs.length; i++) {
            boolean mayEnd = i == 0 || i == 5 || i == 7;
            if (i < 7) {
                AbcForms x = Checks.music(signs[i], 1);
                Checks.due("sort of " + signs[i], x.thing(0, 3), i);
                Checks.due("no ending of " + signs[i], x.thing(0, 15), 0);
            }
            for (int digit = 0; digit <= 9; digit++) {
                if (mayEnd && digit >= 1 && digit <= 4) {
                    AbcForms x = Checks.music(signs[i] + digit, 1);
                    Checks.due("sort of " + signs[i] + digit, x.thing(0, 3), i);
                    Checks.due("ending of " + signs[i] + digit, x.thing(0, 15), digit);
                    Checks.musicFault(signs[i] + digit + "1", 1, signs[i].length() + 1);
                } else {
                    Checks.musicFault(signs[i] + digit, 1, signs[i].length());
                }
            }
        }
        Checks.cells("the longest", Checks.music("|||", 2), 3, 1, 0);
        Checks.musicFault("||:", 1, 2);
        Checks.cells("the longest", Checks.music("|::|", 2), 3, 4, 5);
        Checks.cells("the longest", Checks.music(":::|", 2), 3, 6, 5);
        Checks.cells("the longest", Checks.music("|[|", 2), 3, 0, 3);
        Checks.cells("the longest", Checks.music("|[1", 2), 3, 0, 7);
        Checks.cells("the longest", Checks.music(":||]", 2), 3, 5, 2);
        Checks.cells("the longest", Checks.music("[||", 2), 3, 3, 0);
        Checks.musicFault(":|]", 1, 2);
        Checks.musicFault("[|]", 1, 2);
        Checks.musicFault(":|:", 1, 2);
        Checks.musicFault(":::", 1, 2);
        Checks.musicFault(":", 1, 0);
        Checks.musicFault("]", 1, 0);
    }

    /** "[V: .. ] [M: .. ] [L: .. ] [K: .. ], just these four: as lines (blanks ahead of the ] , too)" */
    private static void changes() {
        AbcForms x = Checks.music("[V:2][V: 2  ][M:3/4][M:  3/4 ][L:1/4][L: 1/4  ][K:D][K: D ][M:C|][M:none ][K:none]", 9);
        Checks.cells("sorts", x, 0, 7, 7, 8, 8, 6, 6, 7, 7, 6);
        Checks.cells("of the VOICE at hand", x, 1, 2, 2, 2, 2, 2, 2, 2, 2, 2);
        for (char letter = 'A'; letter <= 'z'; letter++) {
            boolean four = letter == 'V' || letter == 'M' || letter == 'L' || letter == 'K';
            boolean note = letter >= 'A' && letter <= 'G' || letter >= 'a' && letter <= 'g';
            if (!four && (letter <= 'Z' || letter >= 'a')) {
                Checks.musicFault("[" + letter + ":1]", 1, note ? 2 : 1);
            }
        }
        String[] open = {"[V:1", "[M:C", "[L:1/8", "[K:C"};
        for (int i = 0; i < open.length; i++) {
            Checks.musicFault(open[i], 1, open[i].length());
            Checks.musicFault(open[i] + "  \n]", 1, open[i].length());
            Checks.musicFault(open[i] + " x]", 1, open[i].length() + 1);
            Checks.musicFault(open[i] + "[", 1, open[i].length());
            Checks.music(open[i] + "]A", i == 0 ? 1 : 2);
        }
        Checks.musicFault("[V]", 1, 1);
        Checks.musicFault("[ V:1]", 1, 1);
        Checks.musicFault("[V :1]", 1, 1);
        Checks.musicFault("[V:]", 1, 3);
        Checks.musicFault("[M:]", 1, 3);
        Checks.musicFault("[L:]", 1, 3);
        Checks.musicFault("[K:]", 1, 3);
    }

    /** "of the same letter and octave (RULE 1), or of the same letter (RULE 0); else that of the KEY" */
    private static void signsByRule() {
        String text = "X:1\nT:a\nK:D\n^^c c C c' c, C' D d f F";
        Checks.cells("RULE 1", Checks.tune(1, text, 10), 6, 2, 2, 1, 1, 1, 2, 0, 0, 1, 1);
        Checks.cells("RULE 0", Checks.tune(0, text, 10), 6, 2, 2, 2, 2, 2, 2, 0, 0, 1, 1);
        String latest = "X:1\nT:a\nK:D\n^c _c' =C c C c'";
        Checks.cells("RULE 1, the latest", Checks.tune(1, latest, 6), 6, 1, -1, 0, 1, 0, -1);
        Checks.cells("RULE 0, the latest", Checks.tune(0, latest, 6), 6, 1, -1, 0, 0, 0, 0);
    }

    /** "the latest note with one (a grace, too; also one ahead of it in its [ ]) since the latest BAR or Z of its VOICE" */
    private static void signsSince() {
        Checks.cells("a grace", Checks.music("{^c}c {c}", 3), 6, 1, 1, 1);
        Checks.cells("ahead of it in its [ ]", Checks.music("[c^cc_cc]c", 6), 6, 0, 1, 1, -1, -1, -1);
        Checks.cells("a note without one is none", Checks.music("^c-|c c", 4), 6, 1, 0, 1, 0);
        String[] bars = {"|", "||", "|]", "[|", "|:", ":|", "::", "[1", "|2", ":|3"};
        for (int i = 0; i < bars.length; i++) {
            Checks.cells("since " + bars[i], Checks.music("^c c " + bars[i] + " c", 4), 6, 1, 1, 0, 0);
            Checks.cells("of another VOICE " + bars[i], Checks.music("^c [V:2] " + bars[i] + " c [V:1] c", 4), 6, 1, 0, 0, 1);
        }
        Checks.cells("since Z", Checks.tune(1, METER + "^c Z c", 3), 6, 1, 0, 0);
        Checks.cells("another VOICE's Z", Checks.tune(1, METER + "^c [V:2]Z[V:1] c", 3), 6, 1, 0, 1);
        Checks.cells("over rests, lines, changes", Checks.music("^c z x\nL:1/4\nK:F\nc [M:C] c", 8), 6, 1, 0, 0, 0, 0, 1, 0, 1);
        Checks.cells("a BAR without anything timed", Checks.music("{^c}|c", 3), 6, 1, 0, 0);
    }

    /** "With a tie from a note of the same letter and octave (of [ ]: the first such) right before (..) it has its SIGN" */
    private static void ties() {
        for (int rule = 0; rule <= 1; rule++) {
            Checks.cells("over a bar", Checks.tune(rule, Checks.HEADS + "^c-|c|c", 5), 6, 1, 0, 1, 0, 0);
            Checks.cells("another octave", Checks.tune(rule, Checks.HEADS + "^c-|C", 3), 6, 1, 0, 0);
            Checks.cells("another letter", Checks.tune(rule, Checks.HEADS + "^c-|d", 3), 6, 1, 0, 0);
            Checks.cells("a grace has none", Checks.tune(rule, Checks.HEADS + "^c-|{c}c", 4), 6, 1, 0, 0, 1);
            Checks.cells("a grace that is between", Checks.tune(rule, Checks.HEADS + "^c-{=c}c{c}", 4), 6, 1, 0, 1, 0);
            Checks.cells("a rest is between", Checks.tune(rule, Checks.HEADS + "^c-|zc", 4), 6, 1, 0, 0, 0);
            Checks.cells("a Z is between", Checks.tune(rule, METER + "^c-Zc", 3), 6, 1, 0, 0);
            Checks.cells("a note is between", Checks.tune(rule, Checks.HEADS + "^c-|dc", 4), 6, 1, 0, 0, 0);
            Checks.cells("of a chord the first such", Checks.tune(rule, Checks.HEADS + "[_e^c=c]-|[ceg]", 7), 6, -1, 1, 0, 0, 1, -1, 0);
            Checks.cells("its own sign", Checks.tune(rule, Checks.HEADS + "^c-|=c-|c", 5), 6, 1, 0, 0, 0, 0);
            Checks.cells("not from a grace behind it", Checks.tune(rule, Checks.HEADS + "^d-{_c}|c", 4), 6, 1, -1, 0, 0);
            Checks.cells("of its VOICE", Checks.tune(rule, Checks.HEADS + "^c-|[V:2]c[V:1]c", 4), 6, 1, 0, 0, 1);
            Checks.cells("over changes and bars", Checks.tune(rule, Checks.HEADS + "^c-|:\nK:F\n||[M:C]c", 6), 6, 1, 0, 0, 0, 0, 1);
        }
        Checks.cells("none without -", Checks.music("^c|c", 3), 6, 1, 0, 0);
    }

    /** "PITCH: the letter's (0 2 4 5 7 9 11), 12 times, SIGN (- 2 .. 2); 0 .. 127, else FAULT 4" */
    private static void pitches() {
        String[] low = {"C,,,,,", "^B,,,,,,", "^^B,,,,,,", "=C,,,,,", "__D,,,,,", "_D,,,,,"};
        int[] lowPitch = {0, 0, 1, 0, 0, 1};
        String[] high = {"g''''", "^f''''", "^^f''''", "__a''''", "_g''''", "^^e''''"};
        int[] highPitch = {127, 126, 127, 127, 126, 126};
        for (int i = 0; i < low.length; i++) {
            Checks.due("pitch of " + low[i], Checks.music(low[i], 1).thing(0, 3), lowPitch[i]);
            Checks.due("pitch of " + high[i], Checks.music(high[i], 1).thing(0, 3), highPitch[i]);
        }
        String[] wrong = {"B,,,,,,", "_C,,,,,", "__C,,,,,", "^^A,,,,,,", "^g''''", "^^g''''", "_a''''", "a''''", "c'''''", "__c'''''", "C,,,,,,", "^^g'''''"};
        for (int i = 0; i < wrong.length; i++) {
            Checks.musicFault("c " + wrong[i], 4, 2);
            Checks.musicFault("{" + wrong[i] + "}", 4, 1);
            Checks.musicFault("[c" + wrong[i] + "]", 4, 2);
        }
        Checks.due("0 by the KEY", Checks.tune(0, "X:1\nT:a\nK:C#\nB,,,,,,", 1).thing(0, 3), 0);
        Checks.fault("X:1\nT:a\nK:Cb\nC,,,,,", 4, 13);
        Checks.fault("X:1\nT:a\nK:C#\ng''''", 4, 13);
        Checks.due("127 by a tie", Checks.music("__a''''-|a''''", 3).thing(2, 3), 127);
        Checks.musicFault("__a''''|a''''", 4, 8);
        Checks.musicFault("c" + Checks.times("'", 1980), 4, 0);
        Checks.musicFault("C" + Checks.times(",", 1980), 4, 0);
    }
}
