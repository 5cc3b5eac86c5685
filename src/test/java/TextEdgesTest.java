/** Section 1 of the document, A TEXT and its HEADS: for each sentence that names an edge, a test of its own. */
public final class TextEdgesTest {
    private static final String TWO_TO_32_AND_1 = "4294967297";
    private static final String TWO_TO_64_AND_1 = "18446744073709551617";

    public static void main(String[] args) {
        bytesOfLines();
        lastLineWithoutTen();
        passedOver();
        backslash();
        lineWithoutAnything();
        wholeWords();
        numberOfTheTune();
        oneToThreeTitles();
        eachAtMostOnce();
        speed();
        changesAsLines();
        blanksBehindTheColon();
        meters();
        units();
        unitThatIsNotTold();
        unitToldLater();
        keys();
        keysOfMoreThanSeven();
        Checks.close();
    }

    /** "lines of bytes 32 .. 126" */
    private static void bytesOfLines() {
        for (int b = 0; b < 256; b++) {
            String text = "X:1\nT:a" + (char) b + "c\nK:C";
            if (b >= 32 && b <= 126 && b != '%') {
                AbcForms x = Checks.tune(0, text, 0);
                Checks.due("byte " + b + " of a title", x.title(0, 1), b);
                Checks.due("title with byte " + b, x.title(0, -1), 3);
            } else if (b == 10) {
                Checks.fault(text, 1, 8);
            } else if (b != '%') {
                Checks.fault(text, 1, 7);
            }
        }
        Checks.fault((char) 31 + "X:1\nT:a\nK:C", 1, 0);
        Checks.fault("X:1\nT:a\nK:C\n\n" + (char) 127, 1, 13);
        Checks.fault("X:1\nT:a\nK:C" + (char) 13, 1, 11);
        Checks.fault("?" + (char) 127 + (char) 31, 1, 1);
    }

    /** "each ended by a 10 (the last one may go without)" */
    private static void lastLineWithoutTen() {
        Checks.tune(0, "X:1\nT:a\nK:C", 0);
        Checks.tune(0, "X:1\nT:a\nK:C\n", 0);
        Checks.tune(0, "X:1\nT:a\nK:C\nA", 1);
        Checks.tune(0, "X:1\nT:a\nK:C\nA\n", 1);
        Checks.tune(0, "X:1\nT:a\nK:C\nA\n\n", 1);
    }

    /** "In a line all from a % on (bytes of any sort), then blanks at its end, are passed over" */
    private static void passedOver() {
        for (int b = 0; b < 256; b++) {
            if (b != 10) {
                Checks.tune(0, "X:1\nT:a\nK:C %" + (char) b + "?\nA%" + (char) b, 1);
            }
        }
        Checks.tune(0, "X:1 % ?\nT:a\nK:C% % %\nA   %?\nB   ", 2);
        AbcForms x = Checks.tune(0, "X:1\nT:a b  %c\nT:d   \nT:%\nK:C", 0);
        Checks.due("a title ahead of blanks and %", x.title(0, -1), 3);
        Checks.due("a title ahead of blanks", x.title(1, -1), 1);
        Checks.due("a title that is passed over", x.title(2, -1), 0);
        Checks.musicFault("\"a%b\"", 1, 2);
        Checks.musicFault("[A  %B]", 1, 2);
        Checks.musicFault("[A", 1, 2);
        Checks.musicFault("[A\n", 1, 2);
    }

    /** "a \ that is last then, too (blanks ahead of this stay)" */
    private static void backslash() {
        AbcForms x = Checks.tune(0, "X:1\\\nT:a  \\  % b\nT:\\\\\nT:a\\b\nK:C\\\nA", 1);
        Checks.due("blanks ahead of it stay", x.title(0, -1), 3);
        Checks.due("a blank", x.title(0, 2), ' ');
        Checks.due("one of two is passed over", x.title(1, -1), 1);
        Checks.due("the other stays", x.title(1, 0), '\\');
        Checks.due("one that is not last stays", x.title(2, 1), '\\');
        Checks.fault("X:1\nT:a\nK:C \\\nA", 1, 11);
        Checks.fault("X:1 \\\nT:a\nK:C", 1, 3);
        Checks.music("A \\\nB \\ %\nC\\", 3);
        Checks.musicFault("A\\\\", 1, 1);
        Checks.musicFault("A\\B", 1, 1);
        Checks.musicFault("\\A", 1, 0);
    }

    /** "A line without anything (before that) ends the tune: only such lines may follow." */
    private static void lineWithoutAnything() {
        String[] nothing = {"", "   ", "%x", "  %x", "\\", "\\  %x"};
        for (int i = 0; i < nothing.length; i++) {
            int size = nothing[i].length();
            Checks.music("A\n" + nothing[i] + "\n", 1);
            Checks.music(nothing[i] + "\n\n" + nothing[i] + "\n%\n  ", 0);
            Checks.musicFault("A\n" + nothing[i] + "\nB", 1, 3 + size);
            Checks.musicFault(nothing[i] + "\n" + nothing[i] + "\n B", 1, 2 * size + 2);
            Checks.musicFault(nothing[i] + "\nV:1", 1, size + 1);
            Checks.fault("X:1\nT:a\n" + nothing[i] + "\nK:C", 1, 8);
        }
        Checks.music("A\n \\\nB", 2);
        Checks.musicFault("A\n\n \\\n", 1, 3);
        Checks.musicFault("(A\n\n\n", 6, 5);
    }

    /** "What is there is read as far as it goes; a word (none, a mode) is there whole or not at all." */
    private static void wholeWords() {
        String[] words = {"none", "Gmaj", "Gion", "Gmin", "Gaeo", "Gdor", "Gphr", "Glyd", "Gmix", "Gloc"};
        for (int i = 0; i < words.length; i++) {
            Checks.tune(0, "X:1\nT:a\nK:" + words[i], 0);
            Checks.fault("X:1\nT:a\nK:" + words[i] + "x", 1, 14);
            int place = i == 0 ? 10 : words[i].charAt(1) == 'm' ? 12 : 11;
            Checks.fault("X:1\nT:a\nK:" + words[i].substring(0, 3), 1, place);
            Checks.fault("X:1\nT:a\nK:" + words[i].substring(0, 3) + " ", 1, place);
            Checks.musicFault("[K:" + words[i].substring(0, 3) + "]", 1, place - 7);
        }
        Checks.fault("X:1\nT:a\nM:non\nK:C", 1, 10);
        Checks.fault("X:1\nT:a\nM:nonex\nK:C", 1, 14);
        Checks.fault("X:1\nT:a\nK:G#mi", 1, 13);
        Checks.fault("X:1\nT:a\nK:GMaj", 1, 11);
        Checks.fault("X:1\nT:a\nK:None", 1, 10);
    }

    /** "X: number 1 .. 9,999", and FAULT 1: "a number that is none of those told: at its first byte" */
    private static void numberOfTheTune() {
        Checks.due("X:1", Checks.tune(0, "X:1\nT:a\nK:C", 0).head(0), 1);
        Checks.due("X:9999", Checks.tune(0, "X:9999\nT:a\nK:C", 0).head(0), 9999);
        String[] wrong = {"0", "10000", "99999999", TWO_TO_32_AND_1, TWO_TO_64_AND_1, "", "a", "-1", "+1"};
        for (int i = 0; i < wrong.length; i++) {
            Checks.fault("X:" + wrong[i] + "\nT:a\nK:C", 1, 2);
        }
        Checks.fault("X:1a\nT:a\nK:C", 1, 3);
        Checks.fault("X\nT:a\nK:C", 1, 0);
        Checks.fault("x:1\nT:a\nK:C", 1, 0);
        Checks.fault("X :1\nT:a\nK:C", 1, 0);
        Checks.fault(" X:1\nT:a\nK:C", 1, 0);
        Checks.fault("\nX:1\nT:a\nK:C", 1, 0);
        Checks.fault("T:a\nK:C", 1, 0);
        Checks.fault("", 1, 0);
    }

    /** "Then T: and any text, one to three." */
    private static void oneToThreeTitles() {
        Checks.fault("X:1\nK:C", 1, 4);
        Checks.fault("X:1\nM:C\nK:C", 1, 4);
        for (int count = 1; count <= 3; count++) {
            Checks.due("titles", Checks.tune(0, "X:1\n" + Checks.times("T:\n", count) + "K:C", 0).head(1), count);
        }
        Checks.fault("X:1\nT:\nT:\nT:\nT:\nK:C", 1, 13);
        Checks.fault("X:1\nT:a\nQ:9\nT:b\nK:C", 1, 12);
        Checks.fault("X:1\nT:a\nK:C\nT:b", 1, 12);
        Checks.fault("X:1\nTa\nK:C", 1, 4);
    }

    /** "Then, each at most once, in any order: M: meter, L: unit, Q: number 1 .. 999. Then K: key." */
    private static void eachAtMostOnce() {
        String[] heads = {"M:3/4\n", "L:1/4\n", "Q:120\n"};
        for (int i = 0; i < 3; i++) {
            for (int k = 0; k < 3; k++) {
                String two = "X:1\nT:a\n" + heads[i] + heads[k];
                if (i == k) {
                    Checks.fault(two + "K:C", 1, 14);
                } else {
                    Checks.tune(0, two + "K:C", 0);
                    AbcForms x = Checks.tune(0, two + heads[3 - i - k] + "K:D\n", 0);
                    Checks.due("meter", x.head(2) * 100 + x.head(3), 304);
                    Checks.due("unit", x.head(4), 4);
                    Checks.due("speed", x.head(5), 120);
                    Checks.due("key", x.head(6), 2);
                    Checks.fault(two + heads[3 - i - k] + heads[i] + "K:C", 1, 26);
                }
            }
        }
        Checks.fault("X:1\nT:a\nM:3/4", 1, 13);
        Checks.fault("X:1\nT:a\nA", 1, 8);
        Checks.fault("X:1\nT:a\nX:1\nK:C", 1, 8);
        Checks.fault("X:1\nT:a\nV:1\nK:C", 1, 8);
        Checks.fault("X:1\nT:a\nK", 1, 8);
    }

    /** "Q: number 1 .. 999" */
    private static void speed() {
        Checks.due("none", Checks.tune(0, "X:1\nT:a\nK:C", 0).head(5), 0);
        Checks.due("Q:1", Checks.tune(0, "X:1\nT:a\nQ:1\nK:C", 0).head(5), 1);
        Checks.due("Q:999", Checks.tune(0, "X:1\nT:a\nQ:999\nK:C", 0).head(5), 999);
        String[] wrong = {"0", "1000", TWO_TO_32_AND_1, TWO_TO_64_AND_1, ""};
        for (int i = 0; i < wrong.length; i++) {
            Checks.fault("X:1\nT:a\nQ:" + wrong[i] + "\nK:C", 1, 10);
        }
        Checks.fault("X:1\nT:a\nQ:9 9\nK:C", 1, 11);
    }

    /** "V: (1 .. 3), M:, L:, K: as lines (a line that begins with a letter and : is such a one)" */
    private static void changesAsLines() {
        for (int voice = 1; voice <= 3; voice++) {
            AbcForms x = Checks.music("V:" + voice + "\nA\n[V:" + voice + "]B", 2);
            Checks.cells("voice " + voice, x, 1, voice, voice);
        }
        String[] wrong = {"0", "4", "11", TWO_TO_32_AND_1, TWO_TO_64_AND_1, ""};
        for (int i = 0; i < wrong.length; i++) {
            Checks.musicFault("V:" + wrong[i], 1, 2);
            Checks.musicFault("[V:" + wrong[i] + "]", 1, 3);
        }
        Checks.musicFault("V:1A", 1, 3);
        for (char letter = 'A'; letter <= 'z'; letter++) {
            boolean change = letter == 'V' || letter == 'M' || letter == 'L' || letter == 'K';
            if (letter <= 'Z' || letter >= 'a') {
                Checks.musicFault("c\n" + letter + ":|", 1, change ? 4 : 2);
            }
        }
        Checks.fault("X:1\nT:a\nM:C\nK:C\nZ:|", 1, 16);
        Checks.tune(0, "X:1\nT:a\nM:C\nK:C\n Z:|", 2);
        Checks.music("c\n A:|", 3);
        Checks.music("c\n:|", 2);
    }

    /** "Behind the : blanks may stand." */
    private static void blanksBehindTheColon() {
        AbcForms x = Checks.tune(1, "X:   7\nT:   a\nM:  3/4\nL:  1/4\nQ: 9\nK:   D\nV:  2\nM:  2/4\nL: 1/8\nK:   none\nA", 4);
        int[] want = {7, 1, 3, 4, 4, 9, 2, 4, 2, 1};
        for (int what = 0; what < want.length; what++) {
            Checks.due("head(" + what + ")", x.head(what), want[what]);
        }
        Checks.due("the title", x.title(0, -1), 1);
        Checks.fault("X: 1\nT: a\nM: 3 /4\nK:C", 1, 14);
        Checks.fault("X: 1\nT: a\nM: 3/ 4\nK:C", 1, 15);
        Checks.fault("X: 1\nT: a\nL: 1/ 4\nK:C", 1, 15);
        Checks.fault("X: 1\nT: a\nK: C m", 1, 14);
        Checks.fault("X: 1\nT: a\nK: C #", 1, 14);
    }

    /** "meter: C (4/4), C| (2/2), none, or number / 1, 2, 4, 8, 16, 32 (number 1 .. 32)" */
    private static void meters() {
        for (int number = 0; number <= 34; number++) {
            for (int lower = 0; lower <= 66; lower++) {
                String text = "X:1\nT:a\nM:" + number + "/" + lower + "\nK:C";
                boolean power = lower == 1 || lower == 2 || lower == 4 || lower == 8 || lower == 16 || lower == 32;
                if (number < 1 || number > 32) {
                    Checks.fault(text, 1, 10);
                } else if (!power) {
                    Checks.fault(text, 1, number > 9 ? 13 : 12);
                } else {
                    AbcForms x = Checks.tune(0, text, 0);
                    Checks.due("its number", x.head(2), number);
                    Checks.due("its lower one", x.head(3), lower);
                }
            }
        }
        AbcForms common = Checks.music("[M:C][M:C|][M:none]", 3);
        Checks.cells("numbers", common, 3, 4, 2, 0);
        Checks.cells("lower ones", common, 4, 4, 2, 0);
        Checks.due("C", Checks.tune(0, "X:1\nT:a\nM:C\nK:C", 0).head(3), 4);
        Checks.due("C|", Checks.tune(0, "X:1\nT:a\nM:C|\nK:C", 0).head(3), 2);
        Checks.due("none", Checks.tune(0, "X:1\nT:a\nM:none\nK:C", 0).head(2), 0);
        Checks.fault("X:1\nT:a\nM:" + TWO_TO_32_AND_1 + "/4\nK:C", 1, 10);
        Checks.fault("X:1\nT:a\nM:3/" + TWO_TO_64_AND_1 + "\nK:C", 1, 12);
        Checks.fault("X:1\nT:a\nM:c\nK:C", 1, 10);
        Checks.fault("X:1\nT:a\nM:C/\nK:C", 1, 11);
        Checks.fault("X:1\nT:a\nM:C4\nK:C", 1, 11);
        Checks.fault("X:1\nT:a\nM:C |\nK:C", 1, 11);
        Checks.fault("X:1\nT:a\nM:3/4/\nK:C", 1, 13);
        Checks.fault("X:1\nT:a\nM:3\\4\nK:C", 1, 11);
    }

    /** "unit: 1/ and 1, 2, 4 .. 64" */
    private static void units() {
        for (int lower = 0; lower <= 130; lower++) {
            String text = "X:1\nT:a\nL:1/" + lower + "\nK:C\nA";
            boolean power = lower == 1 || lower == 2 || lower == 4 || lower == 8 || lower == 16 || lower == 32 || lower == 64;
            if (power) {
                AbcForms x = Checks.tune(0, text, 1);
                Checks.due("unit of 1/" + lower, x.head(4), lower);
                Checks.due("time by 1/" + lower, x.time(0), 1290240 / lower);
            } else {
                Checks.fault(text, 1, 12);
                Checks.musicFault("[L:1/" + lower + "]", 1, 5);
            }
        }
        Checks.fault("X:1\nT:a\nL:1/" + TWO_TO_32_AND_1 + "\nK:C", 1, 12);
        Checks.fault("X:1\nT:a\nL:2/8\nK:C", 1, 10);
        Checks.fault("X:1\nT:a\nL:0/8\nK:C", 1, 10);
        Checks.fault("X:1\nT:a\nL:/8\nK:C", 1, 10);
        Checks.fault("X:1\nT:a\nL:\nK:C", 1, 10);
        Checks.fault("X:1\nT:a\nL:1\nK:C", 1, 11);
        Checks.fault("X:1\nT:a\nL:none\nK:C", 1, 10);
        Checks.fault("X:1\nT:a\nL:1/8/\nK:C", 1, 13);
    }

    /** "without L:, when MUSIC begins: 1/16 if the meter is there and less than 3/4, else 1/8." */
    private static void unitThatIsNotTold() {
        for (int number = 1; number <= 32; number++) {
            for (int lower = 1; lower <= 32; lower = lower * 2) {
                AbcForms x = Checks.tune(0, "X:1\nT:a\nM:" + number + "/" + lower + "\nK:C\nA", 1);
                int want = (double) number / lower < 0.75 ? 16 : 8;
                Checks.due("unit in " + number + "/" + lower, x.head(4), want);
                Checks.due("time in " + number + "/" + lower, x.time(0), 1290240 / want);
            }
        }
        Checks.due("none told", Checks.tune(0, "X:1\nT:a\nK:C", 0).head(4), 8);
        Checks.due("M:none", Checks.tune(0, "X:1\nT:a\nM:none\nK:C", 0).head(4), 8);
        Checks.due("L: ahead of M:", Checks.tune(0, "X:1\nT:a\nL:1/2\nM:2/4\nK:C", 0).head(4), 2);
        Checks.due("L: behind M:", Checks.tune(0, "X:1\nT:a\nM:2/4\nL:1/2\nK:C", 0).head(4), 2);
    }

    /** "(A unit told later holds from there on; a meter changes no unit.)" */
    private static void unitToldLater() {
        long e = 1290240 / 8;
        AbcForms x = Checks.music("A[L:1/4]A\nL:1/2\nA[M:2/4]A\nM:1/32\nA", 9);
        Checks.times("units", x, e, 0, 2 * e, 0, 4 * e, 0, 4 * e, 0, 4 * e);
        AbcForms small = Checks.tune(0, "X:1\nT:a\nM:2/4\nK:C\nM:C\nA[M:none]A", 4);
        Checks.times("a meter changes none", small, 0, e / 2, 0, e / 2);
        Checks.due("nor that of the heads", small.head(4), 16);
    }

    /** "key: none, or A .. G, # or b or nothing, and a mode": all that there are. */
    private static void keys() {
        String letters = "FCGDAEB";
        String[] signs = {"b", "", "#"};
        String[] modes = {"", "maj", "ion", "m", "min", "aeo", "dor", "phr", "lyd", "mix", "loc"};
        int[] less = {0, 0, 0, 3, 3, 3, 2, 4, -1, 1, 5};
        for (int letter = 0; letter < 7; letter++) {
            for (int sign = 0; sign < 3; sign++) {
                for (int mode = 0; mode < modes.length; mode++) {
                    String key = letters.charAt(letter) + signs[sign] + modes[mode];
                    int want = letter - 1 + 7 * (sign - 1) - less[mode];
                    if (want < -7 || want > 7) {
                        Checks.fault("X:1\nT:a\nK:" + key + "\nA", 3, 10);
                        Checks.musicFault("[K: " + key + "]", 3, 4);
                    } else {
                        Checks.due("SIGNS of " + key, Checks.tune(0, "X:1\nT:a\nK:" + key, 0).head(6), want);
                        Checks.due("SIGNS of a later " + key, Checks.music("K:" + key, 1).thing(0, 3), want);
                    }
                }
            }
        }
        Checks.due("none", Checks.tune(0, "X:1\nT:a\nK:none", 0).head(6), 0);
        String[] wrong = {"", "H", "a", "c", "@", "#", "b", "1"};
        for (int i = 0; i < wrong.length; i++) {
            Checks.fault("X:1\nT:a\nK:" + wrong[i], 1, 10);
        }
        Checks.fault("X:1\nT:a\nK:Bbb", 1, 12);
        Checks.fault("X:1\nT:a\nK:C#b", 1, 12);
    }

    /** "more than 7 (either way): FAULT 3 at the key's first byte" */
    private static void keysOfMoreThanSeven() {
        Checks.due("7", Checks.tune(0, "X:1\nT:a\nK:C#", 0).head(6), 7);
        Checks.fault("X:1\nT:a\nK:G#", 3, 10);
        Checks.due("- 7", Checks.tune(0, "X:1\nT:a\nK:Cb", 0).head(6), -7);
        Checks.fault("X:1\nT:a\nK:Fb", 3, 10);
        Checks.due("back to 7", Checks.tune(0, "X:1\nT:a\nK:G#mix", 0).head(6), 7);
        Checks.due("back to - 7", Checks.tune(0, "X:1\nT:a\nK:Fblyd", 0).head(6), -7);
        Checks.fault("X:1\nT:a\nK:    G#", 3, 14);
        Checks.fault("X:1\nT:a\nK:G#?", 3, 10);
        Checks.fault("X:1\nT:a\nK:C\nK:  Fb", 3, 16);
        Checks.fault("X:1\nT:a\nK:C\n[K:Fb", 3, 15);
    }
}
