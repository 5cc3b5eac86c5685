/** The faults of music: which, where, and which of two comes first. */
public final class FaultsTest {
    public static void main(String[] args) {
        bytes();
        numbers();
        times();
        slashes();
        pitches();
        things();
        chords();
        measures();
        openAtTheEnd();
        Checks.close();
    }

    private static void bytes() {
        String wrong = "#$&'*+,-/0123456789;=?@IJKLNOQRSUVWXY]\\^_`hijklmnopqrstwy}";
        for (int i = 0; i < wrong.length(); i++) {
            char b = wrong.charAt(i);
            if (b == '=' || b == '^' || b == '_') {
                Checks.musicFault("c4 | " + b, 1, 6);
            } else if (b != '\\') {
                Checks.musicFault("c4 | " + b, 1, 5);
            }
        }
        Checks.musicFault("^^^A", 1, 2);
        Checks.musicFault("==A", 1, 1);
        Checks.musicFault("^_A", 1, 1);
        Checks.musicFault("^ A", 1, 1);
        Checks.musicFault("^z", 1, 1);
        Checks.musicFault("^\nA", 1, 1);
        Checks.musicFault("__", 1, 2);
        Checks.musicFault("A -", 1, 2);
        Checks.musicFault("A--", 1, 2);
        Checks.musicFault("A '", 1, 2);
        Checks.musicFault("A2'", 1, 2);
        Checks.musicFault("A 2", 1, 2);
    }

    private static void numbers() {
        Checks.musicFault("A65", 1, 1);
        Checks.musicFault("A0", 1, 1);
        Checks.musicFault("A3/0", 1, 3);
        Checks.musicFault("A3/6", 1, 3);
        Checks.musicFault("A3/128", 1, 3);
        Checks.musicFault("A/65", 1, 2);
        Checks.musicFault("A3//", 1, 3);
        Checks.musicFault("A//2", 1, 3);
        Checks.musicFault("A/2/", 1, 3);
        Checks.musicFault("A///////", 1, 7);
        Checks.musicFault("[A///////]", 1, 8);
        Checks.musicFault("A3/4/2", 1, 4);
        Checks.musicFault("A4294967297", 1, 1);
        Checks.musicFault("[AB]65", 1, 4);
    }

    private static void times() {
        String wholes = "X:1\nT:a\nL:1/1\nK:C\n";
        Checks.tune(0, wholes + "A8 [c8e4]", 3);
        Checks.fault(wholes + "A9", 4, 18);
        Checks.fault(wholes + "A17/2", 4, 18);
        Checks.fault(wholes + "^A8>B", 4, 18);
        Checks.fault(wholes + "[c4e3]3", 4, 19);
        Checks.fault(wholes + "[c2^e3]3", 4, 21);
        Checks.fault(wholes + "z9", 4, 18);
        Checks.fault(wholes + "A9-x0", 4, 18);
        Checks.fault(wholes + "A9?", 4, 18);
        Checks.fault(wholes + "A9/3", 1, 21);
        Checks.fault(wholes + "A9]", 4, 18);
        Checks.fault(wholes + "(2A6AB", 4, 20);
        Checks.tune(0, wholes + "(3A12AB", 3);
        Checks.fault(wholes + "A<B6", 4, 20);
        Checks.tune(0, wholes + "B>A16", 2);
        Checks.tune(0, wholes + "(3A8>BC", 3);
        Checks.fault(wholes + "B>A16>B", 4, 20);
        Checks.fault(wholes + "B>A17", 4, 20);
        Checks.fault(wholes + "[c4e6]>|", 5, 25);
        Checks.fault(wholes + "[c4e6]>B0", 4, 21);
        String small = "X:1\nT:a\nL:1/64\nK:C\n";
        Checks.tune(0, small + "A/64 A/64", 2);
        Checks.fault(small + "A/64>B", 4, 19);
        Checks.fault(small + "A>>B/64", 4, 22);
        Checks.fault(small + "[A2A/64]>B", 4, 22);
        Checks.fault(small + "(2A/64A", 4, 21);
        Checks.tune(0, small + "(9A/64AAAAAAAA", 9);
        Checks.fault(small + "(4A/64", 4, 21);
        Checks.fault(small + "[A/64]/2", 4, 20);
    }

    /** A seventh / is met while the timed is read, ahead of a time that cannot be; what is no length's is met behind it. */
    private static void slashes() {
        String small = "X:1\nT:a\nL:1/64\nK:C\n";
        Checks.tune(0, small + "a////// z////// [ac/]////", 4);
        Checks.fault(small + "(8a///////", 1, 28);
        Checks.fault(small + "(8a//////", 4, 21);
        Checks.fault(small + "(8a////// /", 4, 21);
        Checks.fault(small + "(8a///////-", 1, 28);
        Checks.fault(small + "(8a////////", 1, 28);
        Checks.fault(small + "(8z///////", 1, 28);
        Checks.fault(small + "(8x///////", 1, 28);
        Checks.fault(small + "x//////-", 1, 26);
        Checks.fault(small + "[a/c]///////", 1, 30);
        Checks.fault(small + "[a/c]//////", 4, 20);
        Checks.fault(small + "[a////////c]", 1, 27);
        Checks.fault(small + "{a///////}", 1, 27);
        Checks.tune(0, small + "{a//////}b", 2);
        Checks.fault(small + "a>>b///////", 1, 29);
        Checks.fault(small + "a>>b//////", 4, 22);
        Checks.fault(small + "a///////>b", 1, 26);
        Checks.fault(small + "(8a/64/", 4, 21);
        Checks.fault(small + "(8a//////2", 4, 21);
        Checks.fault("X:1\nT:a\nL:1/1\nK:C\nA17//", 4, 18);
        Checks.musicFault("a,,,,,,,///////", 4, 0);
    }

    private static void pitches() {
        Checks.musicFault("C,,,,,,", 4, 0);
        Checks.musicFault("_C,,,,,", 4, 0);
        Checks.musicFault("^g''''", 4, 0);
        Checks.musicFault("a''''", 4, 0);
        Checks.musicFault("A c,,,,,,,0", 4, 2);
        Checks.musicFault("[Aa'''']", 4, 2);
        Checks.music("g'''' =C,,,,,", 2);
        Checks.musicFault("B,,,,,,", 4, 0);
        Checks.fault("X:1\nT:a\nK:Cb\nC,,,,,", 4, 13);
        Checks.music("C" + Checks.times(",", 900) + Checks.times("'", 900), 1);
        Checks.musicFault("C" + Checks.times(",", 1900), 4, 0);
    }

    private static void things() {
        String full = Checks.times("A/", 400);
        Checks.due("400 things", Checks.music(full, 400).thing(399, 16), 12 + 798);
        Checks.musicFault(full + "|", 2, 800);
        Checks.musicFault(full + " z0", 2, 801);
        Checks.musicFault(full + "^B0", 2, 800);
        Checks.musicFault(full + "C,,,,,,,", 2, 800);
        Checks.musicFault(full + "^?", 1, 801);
        Checks.musicFault(full + "{ B}", 1, 801);
        Checks.musicFault(full + "{B}", 2, 801);
        Checks.musicFault(full + "[_B", 2, 801);
        Checks.musicFault(full + "[K:G", 2, 800);
        Checks.musicFault(full + "[K:G?]", 2, 800);
        Checks.musicFault(full + "[K:?]", 1, 803);
        Checks.musicFault(full + "[K:G#]", 3, 803);
        Checks.musicFault(full + "\nM:3/4?", 2, 801);
        Checks.musicFault(full + "\nM:3/?", 1, 805);
        Checks.musicFault(full + "\nL:1/8", 2, 801);
        Checks.music(full + "\nV:2\n[V:3]..\"a\"()", 400);
        Checks.musicFault(full + "Z", 1, 800);
        Checks.fault("X:1\nT:a\nM:C\nK:C\n" + full + "Z0", 2, 816);
        Checks.musicFault(full + ":", 1, 800);
        Checks.musicFault(full + ":|", 2, 800);
        Checks.musicFault(full + "[1", 2, 800);
    }

    private static void chords() {
        Checks.musicFault("[]", 1, 1);
        Checks.musicFault("[", 1, 1);
        Checks.musicFault("[A", 1, 2);
        Checks.musicFault("[A\nB]", 1, 2);
        Checks.musicFault("[A-B]", 1, 2);
        Checks.musicFault("[A B]", 1, 2);
        Checks.musicFault("[z]", 1, 1);
        Checks.musicFault("[CDEFGABcdefga]", 2, 13);
        Checks.musicFault("[CDEFGABcdefg^]", 2, 13);
        Checks.musicFault("[CDEFGABcdefg?]", 1, 13);
        Checks.musicFault("[CDEFGABcdefg", 1, 13);
    }

    private static void measures() {
        String most = Checks.times("A|", 150) + "\n";
        String meter = "X:1\nT:a\nM:1/8\nL:1/8\nK:C\n";
        Checks.due("300 by Z", Checks.tune(0, meter + Checks.times("Z16|", 18) + "Z12|", 38).measures(1), 300);
        String full = meter + Checks.times("Z16|", 18) + "Z12|";
        int at = full.length();
        Checks.fault(full + "A", 2, at);
        Checks.fault(full + "| ^?", 2, at + 2);
        Checks.fault(full + "[?", 2, at);
        Checks.fault(full + "z0", 2, at);
        Checks.fault(full + "x", 2, at);
        Checks.fault(full + "Z0", 2, at);
        Checks.fault(full + "[M:none]Z", 2, at + 8);
        Checks.fault(full + "?", 1, at);
        Checks.tune(0, full + "{A}|[V:2]A", 41);
        String nearly = meter + Checks.times("Z16|", 18) + "Z11|";
        Checks.fault(nearly + "Z2", 2, nearly.length());
        Checks.fault(nearly + "Z17", 1, nearly.length() + 1);
        Checks.tune(0, nearly + "Z|", 40);
        Checks.tune(0, full + "\n", 38);
        Checks.due("150 by notes", Checks.tune(0, meter + most, 300).measures(1), 150);
        String open = meter + Checks.times("Z16|", 18) + "Z12";
        Checks.tune(0, open + "A z Z", 40);
        Checks.fault(open + "A Z2", 2, open.length() + 2);
    }

    private static void openAtTheEnd() {
        Checks.musicFault("(A", 6, 2);
        Checks.musicFault("(A  % x\n\n", 6, 9);
        Checks.musicFault("(3AB", 6, 4);
        Checks.musicFault("(3AB(", 6, 5);
        Checks.musicFault("(A\n\n?", 1, 4);
    }
}
