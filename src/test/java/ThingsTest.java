/** Promises 8, 9 and 10: thing, time, start. */
public final class ThingsTest {
    private static final long E = 1290240 / 8;

    public static void main(String[] args) {
        sorts();
        notes();
        signsByRule();
        signsByKey();
        ties();
        chords();
        graces();
        rests();
        bars();
        changes();
        marksAbove();
        slurs();
        tuplets();
        broken();
        voices();
        wrongNumbers();
        Checks.close();
    }

    private static void sorts() {
        AbcForms x = Checks.tune(1, "X:1\nT:a\nM:4/4\nK:C\nA z x Z | {b} [K:G] [M:3/4] [L:1/4]", 9);
        Checks.cells("sorts", x, 0, 0, 1, 2, 3, 4, 5, 6, 7, 8);
        Checks.cells("places", x, 16, 18, 20, 22, 24, 26, 29, 32, 38, 46);
        Checks.cells("values", x, 3, 69, 0, 0, 1, 0, 83, 1, 3, 4);
        Checks.cells("letters", x, 4, 5, 0, 0, 0, 0, 6, 0, 4, 0);
        Checks.cells("notes of it", x, 9, 1, 0, 0, 0, 0, 1, 0, 0, 0);
        Checks.times("times", x, E, E, E, 8 * E, 0, 0, 0, 0, 0);
        Checks.starts("starts", x, 0, E, 2 * E, 3 * E, 11 * E, 11 * E, 11 * E, 11 * E, 11 * E);
    }

    private static void notes() {
        AbcForms x = Checks.music("C c C, c' C,,,,, G,,,,,^^B,,,,,, c'''' __a'''' C', =e2 _B/ ^F3/4 D// E1/1 F64/64", 16);
        Checks.cells("pitch", x, 3, 60, 72, 48, 84, 0, 7, 1, 120, 127, 60, 76, 70, 66, 62, 64, 66);
        Checks.cells("letter", x, 4, 0, 0, 0, 0, 0, 4, 6, 0, 5, 0, 2, 6, 3, 1, 2, 3);
        Checks.cells("octave", x, 5, 4, 5, 3, 6, -1, -1, -2, 9, 9, 4, 5, 4, 4, 4, 4, 4);
        Checks.cells("sign", x, 6, 0, 0, 0, 0, 0, 0, 2, 0, -2, 0, 0, -1, 1, 0, 0, 1);
        Checks.cells("written", x, 7, 0, 0, 0, 0, 0, 0, 1, 0, 1, 0, 1, 1, 1, 0, 0, 0);
        Checks.times("lengths", x, E, E, E, E, E, E, E, E, E, E, 2 * E, E / 2, E * 3 / 4, E / 4, E, E);
        AbcForms y = Checks.music("A/64 A////// A/1 A3/ A64/64 A/2", 6);
        Checks.times("small lengths", y, E / 64, E / 64, E, E * 3 / 2, E, E / 2);
    }

    private static void signsByRule() {
        String text = Checks.HEADS + "^c c C c' _c c =C c | c C";
        AbcForms one = Checks.tune(1, text, 11);
        Checks.cells("RULE 1", one, 6, 1, 1, 0, 0, -1, -1, 0, -1, 0, 0, 0);
        AbcForms zero = Checks.tune(0, text, 11);
        Checks.cells("RULE 0", zero, 6, 1, 1, 1, 1, -1, -1, 0, 0, 0, 0, 0);
        AbcForms far = Checks.tune(1, Checks.HEADS + "^C,,,,, C,,,,, C,,,, ^^B,,,,,, B,,,,,, __a'''' a'''' a'", 8);
        Checks.cells("in every octave", far, 6, 1, 1, 0, 2, 2, -2, -2, 0);
        AbcForms bars = Checks.tune(1, "X:1\nT:a\nM:4/4\nK:C\n^c Z c ^c [1 c ^c || c ^c [K:C] c", 12);
        Checks.cells("since a BAR or a Z", bars, 6, 1, 0, 0, 1, 0, 0, 1, 0, 0, 1, 0, 1);
        AbcForms grace = Checks.tune(1, Checks.HEADS + "{^c}c {c}[_cc] ^^d{d}", 7);
        Checks.cells("graces and chords", grace, 6, 1, 1, 1, -1, -1, 2, 2);
        AbcForms voices = Checks.tune(0, Checks.HEADS + "^c[V:2]c[V:1]c|[V:2]^c[V:1]c[V:2]c", 7);
        Checks.cells("each VOICE its own", voices, 6, 1, 0, 1, 0, 1, 0, 1);
    }

    private static void signsByKey() {
        String[] keys = {"C", "G", "D", "A", "E", "B", "F#", "C#", "F", "Bb", "Eb", "Ab", "Db", "Gb", "Cb"};
        String sharps = "FCGDAEB";
        String letters = "CDEFGAB";
        for (int k = 0; k < keys.length; k++) {
            AbcForms x = Checks.tune(k % 2, "X:1\nT:a\nK:" + keys[k] + "\nCDEFGABcdefgab", 14);
            int count = k < 8 ? k : 7 - k;
            for (int i = 0; i < 14; i++) {
                int order = sharps.indexOf(letters.charAt(i % 7));
                int want = count > 0 ? (order < count ? 1 : 0) : (6 - order < -count ? -1 : 0);
                Checks.due("sign of " + letters.charAt(i % 7) + " in " + keys[k], x.thing(i, 6), want);
            }
        }
        AbcForms later = Checks.tune(1, Checks.HEADS + "^f f [K:F] f b [K:none] b f", 8);
        Checks.cells("a key behind a sign", later, 6, 1, 1, 0, 1, -1, 0, 0, 1);
    }

    private static void ties() {
        AbcForms x = Checks.music("^c-|c c", 4);
        Checks.cells("over a bar", x, 6, 1, 0, 1, 0);
        Checks.cells("not written", x, 7, 1, 0, 0, 0);
        Checks.cells("tie", x, 8, 1, 0, 0, 0);
        Checks.cells("a chain", Checks.music("^c-|c-|c", 5), 6, 1, 0, 1, 0, 1);
        Checks.cells("an octave off", Checks.music("^c-|C", 3), 6, 1, 0, 0);
        Checks.cells("a rest between", Checks.music("^c-|z c", 4), 6, 1, 0, 0, 0);
        Checks.cells("a grace between has none", Checks.music("^c-|{c}c", 4), 6, 1, 0, 0, 1);
        Checks.cells("a tie goes over a sign", Checks.music("^c-{=c}c c", 4), 6, 1, 0, 1, 0);
        Checks.cells("its own sign", Checks.music("^c-|=c c", 4), 6, 1, 0, 0, 0);
        Checks.cells("from a chord, the first such", Checks.music("[^c=ce]-|[ce]", 6), 6, 1, 0, 0, 0, 1, 0);
        Checks.cells("all of a chord", Checks.music("[^ce]-|z", 4), 8, 1, 1, 0, 0);
        Checks.cells("in its voice", Checks.music("^c-|[V:2]c[V:1]c", 4), 6, 1, 0, 0, 1);
        Checks.cells("not without", Checks.music("^c|c", 3), 6, 1, 0, 0);
        AbcForms bars = Checks.tune(1, "X:1\nT:a\nM:4/4\nK:C\n^c-Zc", 3);
        Checks.cells("a Z between", bars, 6, 1, 0, 0);
        Checks.cells("with a length", Checks.music("^c2-|[_ec3]/-|c", 6), 6, 1, 0, -1, 1, 0, 1);
    }

    private static void chords() {
        AbcForms x = Checks.music("[C2E3/2G]3/2- [ce]", 5);
        Checks.times("chord times", x, 3 * E, E * 9 / 4, E * 3 / 2, E, E);
        Checks.starts("chord starts", x, 0, 0, 0, 3 * E, 3 * E);
        Checks.cells("notes", x, 9, 3, 3, 3, 2, 2);
        Checks.cells("places", x, 10, 0, 1, 2, 0, 1);
        Checks.cells("ties", x, 8, 1, 1, 1, 0, 0);
        Checks.cells("texts", x, 16, 13, 15, 19, 27, 28);
        AbcForms twelve = Checks.music("[CDEFGABcdefg]", 12);
        Checks.due("twelve", twelve.thing(11, 9), 12);
        Checks.due("the last", twelve.thing(11, 10), 11);
        AbcForms one = Checks.music("[C]", 1);
        Checks.due("one", one.thing(0, 9), 1);
    }

    private static void graces() {
        AbcForms x = Checks.music("{A2^B///}c{CDEFGABc}", 11);
        Checks.cells("sorts", x, 0, 5, 5, 0, 5, 5, 5, 5, 5, 5, 5, 5);
        Checks.times("times", x, 0, 0, E, 0, 0);
        Checks.starts("starts", x, 0, 0, 0, E, E);
        Checks.cells("pitches", x, 3, 69, 72, 72, 60);
        Checks.cells("notes", x, 9, 1, 1, 1, 1);
        Checks.cells("places", x, 10, 0, 0, 0, 0, 0);
        Checks.musicFault("{}", 1, 1);
        Checks.musicFault("{A-}", 1, 2);
        Checks.musicFault("{CDEFGABcd}", 2, 9);
        Checks.musicFault("{CDEFGABc^}", 2, 9);
        Checks.musicFault("{CDEFGABcz}", 1, 9);
        Checks.musicFault("{A/3}", 1, 3);
        Checks.musicFault("{C,,,,,,}", 4, 1);
        Checks.music("L:1/1\n{A64}", 2);
    }

    private static void rests() {
        AbcForms x = Checks.tune(1, "X:1\nT:a\nM:3/8\nK:C\nz2 x3/4 Z16 Z1 Z", 5);
        long u = E / 2;
        Checks.times("rests", x, 2 * u, u * 3 / 4, 16 * 3 * E, 3 * E, 3 * E);
        Checks.starts("rests", x, 0, 2 * u, u * 11 / 4, u * 11 / 4 + 48 * E, u * 11 / 4 + 51 * E);
        Checks.cells("numbers", x, 3, 0, 0, 16, 1, 1);
        Checks.musicFault("z-", 1, 1);
        Checks.musicFault("z0", 1, 1);
        Checks.musicFault("x'", 1, 1);
        Checks.fault("X:1\nT:a\nM:C\nK:C\nZ0", 1, 17);
        Checks.fault("X:1\nT:a\nM:C\nK:C\nZ2/", 1, 18);
        Checks.fault("X:1\nT:a\nM:C\nK:C\n[M:none]Z", 1, 24);
        AbcForms big = Checks.tune(1, "X:1\nT:a\nM:32/1\nK:C\nZ16", 1);
        Checks.due("512 wholes", big.time(0), 512L * 1290240);
    }

    private static void bars() {
        AbcForms x = Checks.music("| || |] [| |: :| :: |1 |2:|3 :|4 [1 [4 ||| |::| :|| ::|", 21);
        Checks.cells("bars", x, 3, 0, 1, 2, 3, 4, 5, 6, 0, 0, 5, 5, 7, 7, 1, 0, 4, 5, 5, 0, 6, 0);
        Checks.cells("endings", x, 15, 0, 0, 0, 0, 0, 0, 0, 1, 2, 3, 4, 1, 4, 0, 0, 0, 0, 0, 0, 0, 0);
        Checks.musicFault("|5", 1, 1);
        Checks.musicFault("|0", 1, 1);
        Checks.musicFault("|12", 1, 2);
        Checks.musicFault("||1", 1, 2);
        Checks.musicFault("::1", 1, 2);
        Checks.musicFault("|:1", 1, 2);
        Checks.musicFault("[5", 1, 1);
        Checks.musicFault("[|]", 1, 2);
        Checks.musicFault("]", 1, 0);
        Checks.musicFault(":", 1, 0);
        Checks.musicFault(":|:", 1, 2);
        Checks.musicFault("| 1", 1, 2);
    }

    private static void changes() {
        AbcForms x = Checks.music("[K: Eb ] A [M:6/8 ] [M:C|] [M: none] [L: 1/4 ] A\nK:none\nM:3/4\nL:1/2\nA", 11);
        Checks.cells("sorts", x, 0, 6, 0, 7, 7, 7, 8, 0, 6, 7, 8, 0);
        Checks.cells("values", x, 3, -3, 68, 6, 2, 0, 4, 68, 0, 3, 2, 69);
        Checks.cells("lower", x, 4, 0, 5, 8, 2, 0, 0, 5, 0, 4, 0, 5);
        Checks.times("units", x, 0, E, 0, 0, 0, 0, 2 * E, 0, 0, 0, 4 * E);
        Checks.cells("places", x, 16, 12, 21, 23, 32, 39, 49, 59, 61, 68, 74, 80);
        Checks.musicFault("[K:C", 1, 4);
        Checks.musicFault("[K:C x]", 1, 5);
        Checks.musicFault("[K:G#]", 3, 3);
        Checks.musicFault("[Q:3]", 1, 1);
        Checks.musicFault("[V:4]", 1, 3);
        Checks.musicFault("[ K:C]", 1, 1);
        Checks.musicFault("[K :C]", 1, 1);
        Checks.musicFault("[L:1/3]", 1, 5);
        Checks.musicFault("[M:]", 1, 3);
    }

    private static void marksAbove() {
        AbcForms x = Checks.music(".~HTMPuvA .. B \"\"\"Am7 (x)\"!trill!c !abczefABCZEF!\"12345678901234567890\"[ce] .|v{g}\nH[V:2]z", 8);
        Checks.cells("ornaments", x, 11, 255, 1, 0, 0, 0, 0, 0, 133);
        Checks.cells("words", x, 12, 0, 0, 3, 2, 0, 0, 0, 0);
        Checks.musicFault("!!", 1, 1);
        Checks.musicFault("!a1!", 1, 2);
        Checks.musicFault("!abcdefghijklm!", 1, 13);
        Checks.musicFault("!abc", 1, 4);
        Checks.musicFault("!abc  % d!", 1, 4);
        Checks.musicFault("\"123456789012345678901\"", 1, 21);
        Checks.musicFault("\"abc\nd\"", 1, 4);
        Checks.musicFault("\"abc %\"", 1, 4);
        AbcForms bars = Checks.tune(1, "X:1\nT:a\nM:C\nK:C\n.\"a\"Z z", 2);
        Checks.cells("not of a Z", bars, 11, 0, 1);
        Checks.cells("nor words", bars, 12, 0, 1);
    }

    private static void slurs() {
        AbcForms x = Checks.music("((A(B)) [ce])", 4);
        Checks.cells("begin", x, 13, 2, 1, 0, 0);
        Checks.cells("close", x, 14, 0, 2, 1, 0);
        AbcForms y = Checks.music("()A ( ( ( ( B ) ) [V:2]) c) (z)", 4);
        Checks.cells("begin", y, 13, 1, 4, 0, 1);
        Checks.cells("close", y, 14, 0, 3, 1, 1);
        AbcForms chord = Checks.music("(A [V:2] ([ce] | {g} ) )", 5);
        Checks.cells("of a chord's first note", chord, 13, 1, 1, 0, 0, 0);
        Checks.cells("of the latest timed", chord, 14, 0, 2, 0, 0, 0);
        Checks.musicFault("((((A))))(((((", 5, 13);
        Checks.musicFault("(A))", 5, 3);
        Checks.musicFault(")", 5, 0);
        Checks.musicFault("(A\nB\n\n", 6, 6);
        Checks.musicFault("(A\n\nB", 1, 4);
        Checks.musicFault("[c(e])", 1, 2);
    }

    private static void tuplets() {
        int[] p = {2, 3, 4, 5, 6, 7, 8, 9};
        int[] plain = {3, 2, 3, 2, 2, 2, 3, 2};
        int[] eights = {3, 2, 3, 3, 2, 3, 3, 3};
        String[] meters = {"none", "4/4", "6/8", "9/8", "12/8", "3/8", "6/4", "12/16"};
        for (int m = 0; m < meters.length; m++) {
            int[] q = m >= 2 && m <= 4 ? eights : plain;
            for (int k = 0; k < p.length; k++) {
                AbcForms x = Checks.tune(0, "X:1\nT:a\nL:1/8\nM:" + meters[m] + "\nK:C\n(" + p[k] + Checks.times("A", p[k]) + "B", p[k] + 1);
                Checks.due("first of (" + p[k] + " in " + meters[m], x.time(0), E * q[k] / p[k]);
                Checks.due("last of (" + p[k] + " in " + meters[m], x.time(p[k] - 1), E * q[k] / p[k]);
                Checks.due("behind (" + p[k], x.time(p[k]), E);
            }
        }
        Checks.times("(3:2:4", Checks.music("(3:2:4 A2 z [ceg] x B", 7), E * 4 / 3, E * 2 / 3, E * 2 / 3, E * 2 / 3, E * 2 / 3, E * 2 / 3, E);
        Checks.times("(3::2", Checks.music("(3::2AAA", 3), E * 2 / 3, E * 2 / 3, E);
        Checks.times("(3:1", Checks.music("(3:1AAAA", 4), E / 3, E / 3, E / 3, E);
        Checks.times("(3:", Checks.music("(3:AAAA", 4), E * 2 / 3, E * 2 / 3, E * 2 / 3, E);
        Checks.times("(3::", Checks.music("(3:: AAAA", 4), E * 2 / 3, E * 2 / 3, E * 2 / 3, E);
        Checks.times("(9:8:1", Checks.music("(9:8:1 AA", 2), E * 8 / 9, E);
        Checks.times("(5:4", Checks.music("(5:4 AAAAAA", 6), E * 4 / 5, E * 4 / 5, E * 4 / 5, E * 4 / 5, E * 4 / 5, E);
        Checks.times("over bars, graces, V:", Checks.music("(3A|{g}B[V:2]c d", 6), E * 2 / 3, 0, 0, E * 2 / 3, E * 2 / 3, E);
        Checks.times("a Z is none", Checks.tune(0, "X:1\nT:a\nM:C\nK:C\n(2AZBC", 4), E * 3 / 2, 8 * E, E * 3 / 2, E);
        Checks.times("the VOICE's meter", Checks.music("[M:6/8](5AAAAA[V:2](5AAAAA", 11), 0, E * 3 / 5, E * 3 / 5, E * 3 / 5, E * 3 / 5,
            E * 3 / 5, E * 2 / 5);
        Checks.musicFault("(0A", 1, 1);
        Checks.musicFault("(1A", 1, 1);
        Checks.musicFault("(3:0A", 1, 3);
        Checks.musicFault("(3:2:0A", 1, 5);
        Checks.musicFault("(32ABC", 1, 2);
        Checks.musicFault("(3:22ABC", 1, 4);
        Checks.musicFault("(3:2:33ABC", 1, 6);
        Checks.musicFault("(3AB(2c", 5, 4);
        Checks.musicFault("(3AB(1c", 1, 5);
        Checks.musicFault("(3AB(3:0c", 5, 4);
        Checks.musicFault("(3AB\n", 6, 5);
        Checks.musicFault("(3", 6, 2);
        Checks.musicFault("( 3", 1, 2);
        Checks.musicFault("(3AB (3C", 5, 5);
        Checks.musicFault("(3:2:1:1", 1, 6);
    }

    private static void broken() {
        Checks.times(">", Checks.music("A>B A>>B A>>>B", 6), E * 3 / 2, E / 2, E * 7 / 4, E / 4, E * 15 / 8, E / 8);
        Checks.times("<", Checks.music("A<B A <<B A<<< B", 6), E / 2, E * 3 / 2, E / 4, E * 7 / 4, E / 8, E * 15 / 8);
        AbcForms x = Checks.music("A > z2 < [c2e] > x | B", 7);
        Checks.times("a row of them", x, E * 3 / 2, E / 2, E * 9 / 2, E * 9 / 4, E / 2, 0, E);
        Checks.starts("a row of them", x, 0, E * 3 / 2, 2 * E, 2 * E, E * 13 / 2, 7 * E, 7 * E);
        Checks.times("in a tuplet", Checks.music("(3A>BC", 3), E, E / 3, E * 2 / 3);
        Checks.times("a tie and a sign", Checks.music("A->^A", 2), E * 3 / 2, E / 2);
        Checks.due("the measure's", Checks.music("A>B", 2).length(1, 0), 2 * E);
        Checks.musicFault("A>>>>B", 5, 4);
        Checks.musicFault("A><B", 5, 2);
        Checks.musicFault("A> >B", 5, 3);
        Checks.musicFault("A\n>B", 5, 2);
        Checks.musicFault("A>  \\\nB", 5, 4);
        Checks.musicFault("A>%\nB", 5, 2);
        Checks.musicFault("A)>B", 5, 1);
        Checks.musicFault("(A)>B", 5, 3);
        Checks.musicFault("A|>B", 5, 2);
        Checks.musicFault("A{g}>B", 5, 4);
        Checks.musicFault("A[V:2]>B", 5, 6);
        Checks.musicFault("A.>B", 5, 2);
        Checks.musicFault("A>.B", 5, 2);
        Checks.musicFault("A>{g}B", 5, 2);
        Checks.musicFault("A>(B)", 5, 2);
        Checks.musicFault("A>|", 5, 2);
        Checks.musicFault("A>[|", 5, 2);
        Checks.musicFault("A>[1", 5, 2);
        Checks.musicFault("A>[K:C]B", 5, 2);
        Checks.musicFault("A>Z", 5, 2);
        Checks.musicFault("A>[5", 1, 3);
        Checks.musicFault("A>^", 1, 3);
        Checks.fault("X:1\nT:a\nM:C\nK:C\nZ>A", 5, 17);
    }

    private static void voices() {
        AbcForms x = Checks.tune(1, "X:1\nT:a\nM:4/4\nK:G\nA\nV:2\n[L:1/4]B|[K:F]c\nV: 1\nf[M:3/4]|\nV:3\nb f Z[V:2]bZ", 14);
        Checks.cells("voices", x, 1, 1, 2, 2, 2, 2, 2, 1, 1, 1, 3, 3, 3, 2, 2);
        Checks.times("times", x, E, 0, 2 * E, 0, 0, 2 * E, E, 0, 0, E, E, 8 * E, 2 * E, 8 * E);
        Checks.starts("starts", x, 0, 0, 0, 2 * E, 2 * E, 2 * E, E, 2 * E, 2 * E, 0, E, 2 * E, 4 * E, 6 * E);
        Checks.cells("measures", x, 2, 0, 0, 0, 0, 1, 1, 0, 0, 0, 0, 0, 0, 1, 1);
        Checks.cells("signs", x, 6, 0, 0, 0, 0, 0, 0, 1, 0, 0, 0, 1, 0, -1, 0);
        Checks.due("the greatest", x.head(8), 3);
    }

    private static void wrongNumbers() {
        AbcForms x = Checks.music("A", 1);
        int[] wrong = {-1, 1, 400, 401, Integer.MAX_VALUE, Integer.MIN_VALUE};
        for (int i = 0; i < wrong.length; i++) {
            Checks.due("thing(" + wrong[i] + ", 0)", x.thing(wrong[i], 0), AbcForms.BAD);
            Checks.due("time(" + wrong[i] + ")", x.time(wrong[i]), AbcForms.BAD);
            Checks.due("start(" + wrong[i] + ")", x.start(wrong[i]), AbcForms.BAD);
        }
        int[] what = {-1, 17, 18, 19, Integer.MAX_VALUE, Integer.MIN_VALUE};
        for (int i = 0; i < what.length; i++) {
            Checks.due("thing(0, " + what[i] + ")", x.thing(0, what[i]), AbcForms.BAD);
        }
        Checks.due("thing(0, 16)", x.thing(0, 16), 12);
    }
}
