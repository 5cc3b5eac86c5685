/** The FAULTS of section 2, sentence by sentence: which, where, and which of two is told. */
public final class FaultEdgesTest {
    private static final String METER = "X:1\nT:a\nM:1/8\nL:1/8\nK:C\n";
    private static final String FULL = Checks.times("A/", 400);

    public static void main(String[] args) {
        moreThan2000Bytes();
        otherBytes();
        theFirstThatIsMet();
        endsTooEarly();
        colonThatIsNoBar();
        linesThatCannotCome();
        bytesThatCannotStand();
        things401();
        notesWhenThereAre400();
        changesWhenThereAre400();
        othersWhenThereAre400();
        thirteenthOfChord();
        ninthOfGraces();
        openAtTheEnd();
        Checks.close();
    }

    /** "Ahead of all others: more than 2,000 bytes: 2 at 2,000" */
    private static void moreThan2000Bytes() {
        String text = Checks.HEADS + "A%" + Checks.times("x", 2000 - Checks.HEADS.length() - 2);
        Checks.tune(0, text, 1);
        Checks.tune(0, text.substring(0, 1999), 1);
        Checks.tune(0, text.substring(0, 1999) + "\n", 1);
        Checks.fault(text + "x", 2, 2000);
        Checks.fault(text + "\n", 2, 2000);
        Checks.fault((char) 0 + text, 2, 2000);
        Checks.fault("?" + text, 2, 2000);
        Checks.fault(text + Checks.times("x", 400), 2, 2000);
        Checks.fault(Checks.times("" + (char) 255, 2400), 2, 2000);
        Checks.fault(Checks.times("" + (char) 255, 2000), 1, 0);
        String title = "X:1\nT:" + Checks.times("t", 1990) + "\nK:C";
        Checks.due("a long title", Checks.tune(0, title, 0).title(0, -1), 1990);
        Checks.due("its last byte", Checks.tune(0, title, 0).title(0, 1989), 't');
        Checks.fault("X:1\nT:" + Checks.times("t", 1991) + "\nK:C", 2, 2000);
    }

    /** "then a byte that is not 32 .. 126 where it is not passed over: 1 at the first such" */
    private static void otherBytes() {
        Checks.fault("??" + (char) 31, 1, 2);
        Checks.fault("X:0\nT:a\nK:G#\n" + (char) 127 + (char) 128, 1, 13);
        Checks.musicFault(")" + (char) 9 + (char) 0, 1, 1);
        Checks.musicFault("C,,,,,,, %" + (char) 9 + "\n" + (char) 200, 1, 12);
        Checks.musicFault("(A\n\n%" + (char) 0 + "\n" + (char) 0, 1, 7);
        Checks.musicFault("\"" + (char) 127 + "\"", 1, 1);
        Checks.musicFault("A\\" + (char) 7, 1, 2);
        Checks.music("A%" + (char) 0 + (char) 31 + (char) 127 + (char) 255 + "%\nB", 2);
    }

    /** "Then the first that is met." */
    private static void theFirstThatIsMet() {
        Checks.fault("X:0\nT:a\nK:G#", 1, 2);
        Checks.fault("X:1\nT:a\nM:3\nK:G#", 1, 11);
        Checks.fault("X:1\nT:a\nK:G#\n?", 3, 10);
        Checks.musicFault("A > | ?", 5, 4);
        Checks.musicFault("A ? > |", 1, 2);
        Checks.musicFault(") C,,,,,,", 5, 0);
        Checks.musicFault("C,,,,,, )", 4, 0);
        Checks.musicFault("(3AB ?", 1, 5);
        Checks.musicFault("(3AB\n\n?", 1, 6);
    }

    /** "(at the first that is passed over, the 10, the text's end, if it ends too early ..)" */
    private static void endsTooEarly() {
        String[] open = {"^", "__", "[", "[A", "[A2/", "[^", "{", "{A", "{A/", "{_", "!", "!abc", "\"", "\"ab", "[V:", "[V:1", "[M:", "[M:C", "[M:3", "[M:3/",
            "[L:", "[L:1", "[L:1/", "[L:1/8", "[K:", "[K:C"};
        for (int i = 0; i < open.length; i++) {
            int end = open[i].length();
            Checks.musicFault(open[i], 1, end);
            Checks.musicFault(open[i] + "\nA]", 1, end);
            Checks.musicFault(open[i] + "%]}\"!", 1, end);
            Checks.musicFault(open[i] + "\\", 1, end);
            Checks.musicFault(open[i] + "\\   %", 1, end);
            Checks.musicFault(open[i] + "   ", 1, end);
            Checks.musicFault(open[i] + "   \n]", 1, end);
            Checks.musicFault(open[i] + "   %]", 1, end);
        }
        String[] heads = {"M:", "M:3", "M:3/", "L:", "L:1", "L:1/", "Q:", "K:"};
        for (int i = 0; i < heads.length; i++) {
            int end = 8 + heads[i].length();
            Checks.fault("X:1\nT:a\n" + heads[i], 1, end);
            Checks.fault("X:1\nT:a\n" + heads[i] + "\nK:C", 1, end);
            Checks.fault("X:1\nT:a\n" + heads[i] + "  % 1", 1, end);
            Checks.fault("X:1\nT:a\n" + heads[i] + "\\\n", 1, end);
        }
        Checks.fault("X:1\nT:a\n", 1, 8);
        Checks.fault("X:1\nT:a", 1, 7);
        Checks.fault("X:1\n", 1, 4);
        Checks.fault("X:1", 1, 3);
        Checks.fault("X:", 1, 2);
        Checks.fault("", 1, 0);
    }

    /** "a : that is no bar: at it" */
    private static void colonThatIsNoBar() {
        Checks.musicFault(":", 1, 0);
        Checks.musicFault(":A", 1, 0);
        Checks.musicFault("A :", 1, 2);
        Checks.musicFault(" A:", 1, 2);
        Checks.musicFault("|::", 1, 2);
        Checks.musicFault(": |", 1, 0);
        Checks.musicFault(": :", 1, 0);
        Checks.musicFault(":\n|", 1, 0);
        Checks.musicFault(":[", 1, 0);
        Checks.musicFault("^:", 1, 1);
    }

    /** "a line that cannot come there (a head without its : , too): at its first byte" */
    private static void linesThatCannotCome() {
        String[] heads = {"X", "T", "M", "L", "Q", "K", "X 1", "T a", "M C", "K C", "XX:1", "?", ":", "", " X:1", "V:1", "W:a", "x:1", "A", "[K:C]"};
        for (int i = 0; i < heads.length; i++) {
            Checks.fault(heads[i] + "\nX:1\nT:a\nK:C", 1, 0);
            Checks.fault("X:1\n" + heads[i] + "\nT:a\nK:C", 1, 4);
            Checks.fault("X:1\nT:a\n" + heads[i] + "\nK:C", 1, 8);
        }
        String[] lines = {"X:1", "T:a", "Q:9", "W:a", "A:|", "c:|", "z:|"};
        for (int i = 0; i < lines.length; i++) {
            Checks.musicFault(lines[i], 1, 0);
            Checks.musicFault("A\n" + lines[i], 1, 2);
        }
        Checks.musicFault("A\n\n A", 1, 3);
        Checks.musicFault("A\n\nK:C", 1, 3);
        Checks.musicFault("A\n\n\n%\n)", 1, 6);
    }

    /** "1: a byte that cannot stand there, at it": each byte where music may begin. */
    private static void bytesThatCannotStand() {
        String may = " ABCDEFGabcdefgzx|()[{:.~HTMPuv!\"^_=<>%\\Z";
        for (int b = 32; b <= 126; b++) {
            if (may.indexOf(b) < 0) {
                Checks.musicFault("c4 | " + (char) b + " A", 1, 5);
                // a digit 1 .. 4 behind [ is an ending, so it is the ] that cannot stand there
                Checks.musicFault("c4 | [" + (char) b + "A]", 1, b >= '1' && b <= '4' ? 8 : 6);
                Checks.musicFault("c4 | {" + (char) b + "A}", 1, 6);
                Checks.musicFault("c4 | ^" + (char) b + "A", 1, 6);
            }
        }
    }

    /** "2: 401 THINGS, at the one too many, when it comes" */
    private static void things401() {
        Checks.due("400 of them", Checks.music(FULL, 400).head(7), 400);
        Checks.due("the last", Checks.music(FULL, 400).thing(399, 16), 12 + 798);
        Checks.due("behind the last", Checks.music(FULL, 400).thing(400, 0), AbcForms.BAD);
        Checks.musicFault(FULL + "A", 2, 800);
        Checks.musicFault(Checks.times("|", 801), 2, 800);
        Checks.musicFault(Checks.times("{AB}", 201), 2, 801);
        Checks.due("400 in chords", Checks.music(Checks.times("[ABcd]", 100), 400).thing(399, 10), 3);
        Checks.musicFault(Checks.times("[ABcd]", 100) + " [A", 2, 602);
        Checks.musicFault(Checks.times("[ABcd]", 99) + "[ABc][ABcd]", 2, 594 + 5 + 2);
        Checks.music(FULL + " .\"a\"!b!()[V:2]\n\n", 400);
        Checks.music(FULL + "\nV:3", 400);
    }

    /** "a note behind its octave (ahead of its PITCH, this ahead of its length)" */
    private static void notesWhenThereAre400() {
        Checks.musicFault(FULL + " ^A0", 2, 801);
        Checks.musicFault(FULL + "^", 1, 801);
        Checks.musicFault(FULL + "^^^", 1, 802);
        Checks.musicFault(FULL + "C,,,,,,,,", 2, 800);
        Checks.musicFault(FULL + "[C,,,,,,,,", 2, 801);
        Checks.musicFault(FULL + "[?", 1, 801);
        Checks.musicFault(FULL + "{C,,,,,,,,", 2, 801);
        Checks.musicFault(FULL + "{?", 1, 801);
        Checks.musicFault("C,,,,,,,,0", 4, 0);
        Checks.musicFault("C,,,,,,,,///////", 4, 0);
        Checks.musicFault("[A0C,,,,,,,,]", 1, 2);
        Checks.musicFault("{C,,,,,,,,65}", 4, 1);
    }

    /** "a change behind what it tells" */
    private static void changesWhenThereAre400() {
        Checks.musicFault(FULL + "[K:G", 2, 800);
        Checks.musicFault(FULL + "[K:G ?", 2, 800);
        Checks.musicFault(FULL + "[K:?", 1, 803);
        Checks.musicFault(FULL + "[K:G#", 3, 803);
        Checks.musicFault(FULL + "[M:3/4", 2, 800);
        Checks.musicFault(FULL + "[M:3/", 1, 805);
        Checks.musicFault(FULL + "[M:none", 2, 800);
        Checks.musicFault(FULL + "[L:1/8", 2, 800);
        Checks.musicFault(FULL + "[L:1/9", 1, 805);
        Checks.musicFault(FULL + "\nK:G?", 2, 801);
        Checks.musicFault(FULL + "\nM:C?", 2, 801);
        Checks.musicFault(FULL + "\nL:1/8?", 2, 801);
        Checks.musicFault(FULL + "\nL:1/?", 1, 805);
        Checks.musicFault(FULL + "[V:2?]", 1, 804);
    }

    /** "all others at their first byte" */
    private static void othersWhenThereAre400() {
        String[] others = {"|", "||", "|:1", ":|?", "::", "[1", "[|", "z0", "x///////", "z"};
        for (int i = 0; i < others.length; i++) {
            Checks.musicFault(FULL + " " + others[i], 2, 801);
        }
        Checks.fault(METER + FULL + "Z0", 2, METER.length() + 800);
        Checks.musicFault(FULL + "Z", 1, 800);
        Checks.musicFault(FULL + ":", 1, 800);
        Checks.musicFault(FULL + ">", 5, 801);
        Checks.musicFault(FULL + ")", 5, 800);
    }

    /** "the 13th note in [ ] .., as soon as its first byte is there" */
    private static void thirteenthOfChord() {
        String twelve = "[CDEFGABcdefg";
        Checks.music(twelve + "]", 12);
        String[] more = {"a]", "^", "_?", "=", "A", "C,,,,,,,"};
        for (int i = 0; i < more.length; i++) {
            Checks.musicFault(twelve + more[i], 2, 13);
        }
        String[] other = {"z", "?", "", " a", "\n", "-", "|"};
        for (int i = 0; i < other.length; i++) {
            Checks.musicFault(twelve + other[i], 1, 13);
        }
        Checks.musicFault("[^C2_D/=EFGABcdefg'^a", 2, 19);
        Checks.musicFault(Checks.times("[ABcd]", 97) + "[CDEFGABcdefg^", 2, 97 * 6 + 13);
        Checks.musicFault(Checks.times("[ABcd]", 97) + "[CDEFGABcdefg]A", 2, 97 * 6 + 14);
    }

    /** "the 9th in { }, as soon as its first byte is there" */
    private static void ninthOfGraces() {
        String eight = "{CDEFGABc";
        Checks.music(eight + "}", 8);
        String[] more = {"a}", "^", "_?", "=", "A", "C,,,,,,,"};
        for (int i = 0; i < more.length; i++) {
            Checks.musicFault(eight + more[i], 2, 9);
        }
        String[] other = {"z", "?", "", " a", "\n", "-", "]"};
        for (int i = 0; i < other.length; i++) {
            Checks.musicFault(eight + other[i], 1, 9);
        }
    }

    /** "6 at the text's end: a TUPLET that is not full, a slur that is open." */
    private static void openAtTheEnd() {
        Checks.musicFault("(", 6, 1);
        Checks.musicFault("(3", 6, 2);
        Checks.musicFault("(3:2:1", 6, 6);
        Checks.musicFault("(2A", 6, 3);
        Checks.musicFault("(A  ", 6, 4);
        Checks.musicFault("(A\n", 6, 3);
        Checks.musicFault("(A\n\n\n", 6, 5);
        Checks.musicFault("(A % x\n\n%", 6, 9);
        Checks.musicFault("((A)", 6, 4);
        Checks.musicFault("(2A (", 6, 5);
        Checks.music("(2AA", 2);
        Checks.music("(A)", 1);
        Checks.fault(Checks.HEADS + "(A%" + Checks.times("x", 2000 - Checks.HEADS.length() - 3), 6, 2000);
    }
}
