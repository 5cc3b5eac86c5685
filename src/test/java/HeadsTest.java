/** Promises 6 and 7: head, title; the heads in order and their faults. */
public final class HeadsTest {
    public static void main(String[] args) {
        values();
        titles();
        units();
        meters();
        keys();
        order();
        lines();
        Checks.close();
    }

    private static void values() {
        AbcForms x = Checks.tune(1, "X: 9999\nT:a\nT:b\nQ:  999\nL:1/32\nM: 12/8\nK: Bb\nA[V:3]B[V:2]", 2);
        int[] want = {9999, 2, 12, 8, 32, 999, -2, 2, 3, 1};
        for (int what = 0; what < want.length; what++) {
            Checks.due("head(" + what + ")", x.head(what), want[what]);
        }
        Checks.due("head(10)", x.head(10), AbcForms.BAD);
        Checks.due("head(-1)", x.head(-1), AbcForms.BAD);
        Checks.due("head(least)", x.head(Integer.MIN_VALUE), AbcForms.BAD);
        AbcForms y = Checks.tune(0, "X:1\nT:\nK:none", 0);
        int[] bare = {1, 1, 0, 0, 8, 0, 0, 0, 1, 0};
        for (int what = 0; what < bare.length; what++) {
            Checks.due("bare head(" + what + ")", y.head(what), bare[what]);
        }
        AbcForms z = Checks.tune(0, "X:1\nT:a\nM:2/4\nL:1/4\nK:C\nM:3/4\nL:1/8\nK:D\n", 3);
        Checks.due("a later meter is none of the heads", z.head(2), 2);
        Checks.due("a later unit is none of the heads", z.head(4), 4);
        Checks.due("a later key is none of the heads", z.head(6), 0);
    }

    private static void titles() {
        AbcForms x = Checks.tune(0, "X:1\nT:  ab c  % d\nT:\nT: e \\\nK:C", 0);
        Checks.due("title(0, -1)", x.title(0, -1), 4);
        Checks.due("title(0, 0)", x.title(0, 0), 'a');
        Checks.due("title(0, 2)", x.title(0, 2), ' ');
        Checks.due("title(0, 3)", x.title(0, 3), 'c');
        Checks.due("title(0, 4)", x.title(0, 4), AbcForms.BAD);
        Checks.due("title(0, -2)", x.title(0, -2), AbcForms.BAD);
        Checks.due("title(1, -1)", x.title(1, -1), 0);
        Checks.due("title(1, 0)", x.title(1, 0), AbcForms.BAD);
        Checks.due("title(2, -1)", x.title(2, -1), 2);
        Checks.due("title(2, 1)", x.title(2, 1), ' ');
        Checks.due("title(3, -1)", x.title(3, -1), AbcForms.BAD);
        Checks.due("title(-1, -1)", x.title(-1, -1), AbcForms.BAD);
        Checks.due("title(0, most)", x.title(0, Integer.MAX_VALUE), AbcForms.BAD);
        Checks.feed(x, "X:1\nT:zzzzzzzzzzzzzzzz");
        Checks.due("feeding changes no title", x.title(0, 0), 'a');
    }

    private static void units() {
        String[] told = {"M:2/4", "M:5/8", "M:6/8", "M:3/4", "M:11/16", "M:12/16", "M:C", "M:C|", "M:none", "M:1/1", "M:23/32", "M:1/8"};
        int[] want = {16, 16, 8, 8, 16, 8, 8, 8, 8, 8, 16, 16};
        for (int i = 0; i < told.length; i++) {
            AbcForms x = Checks.tune(0, "X:1\nT:a\n" + told[i] + "\nK:C\nA", 1);
            Checks.due("unit for " + told[i], x.head(4), want[i]);
            Checks.due("time for " + told[i], x.time(0), 1290240 / want[i]);
        }
        for (int lower = 1; lower <= 64; lower = lower * 2) {
            AbcForms x = Checks.tune(0, "X:1\nT:a\nL:1/" + lower + "\nK:C\nA", 1);
            Checks.due("unit told", x.head(4), lower);
        }
        Checks.fault("X:1\nT:a\nL:1/128\nK:C", 1, 12);
        Checks.fault("X:1\nT:a\nL:2/8\nK:C", 1, 10);
        Checks.fault("X:1\nT:a\nL:1\nK:C", 1, 11);
        Checks.fault("X:1\nT:a\nL:1/\nK:C", 1, 12);
        Checks.fault("X:1\nT:a\nL:1/8 x\nK:C", 1, 13);
        Checks.fault("X:1\nT:a\nL:1/0\nK:C", 1, 12);
    }

    private static void meters() {
        String[] told = {"C", "C|", "none", "1/1", "32/32", "7/16", " 3/2"};
        int[] number = {4, 2, 0, 1, 32, 7, 3};
        int[] lower = {4, 2, 0, 1, 32, 16, 2};
        for (int i = 0; i < told.length; i++) {
            AbcForms x = Checks.tune(0, "X:1\nT:a\nM:" + told[i] + "\nK:C", 0);
            Checks.due("number of " + told[i], x.head(2), number[i]);
            Checks.due("lower one of " + told[i], x.head(3), lower[i]);
        }
        Checks.fault("X:1\nT:a\nM:33/4\nK:C", 1, 10);
        Checks.fault("X:1\nT:a\nM:0/4\nK:C", 1, 10);
        Checks.fault("X:1\nT:a\nM:4/64\nK:C", 1, 12);
        Checks.fault("X:1\nT:a\nM:4\nK:C", 1, 11);
        Checks.fault("X:1\nT:a\nM:\nK:C", 1, 10);
        Checks.fault("X:1\nT:a\nM:  \nK:C", 1, 10);
        Checks.fault("X:1\nT:a\nM:non\nK:C", 1, 10);
        Checks.fault("X:1\nT:a\nM:nonee\nK:C", 1, 14);
        Checks.fault("X:1\nT:a\nM:C||\nK:C", 1, 12);
        Checks.fault("X:1\nT:a\nM:4 /4\nK:C", 1, 11);
        Checks.fault("X:1\nT:a\nM:99999999999999999999/4\nK:C", 1, 10);
    }

    private static void keys() {
        String[] told = {"F", "C", "G", "D", "A", "E", "B", "F#", "C#", "Bb", "Cb", "Am", "Amin", "Aaeo", "Cmaj", "Cion",
            "Ddor", "Ephr", "Flyd", "Gmix", "Bloc", "G#min", "Fblyd", "none", "D#m", "A#m", "B#loc", "E#phr"};
        int[] want = {-1, 0, 1, 2, 3, 4, 5, 6, 7, -2, -7, 0, 0, 0, 0, 0, 0, 0, 0, 0, 0, 5, -7, 0, 6, 7, 7, 7};
        for (int i = 0; i < told.length; i++) {
            AbcForms x = Checks.tune(0, "X:1\nT:a\nK:" + told[i] + "\n", 0);
            Checks.due("SIGNS of " + told[i], x.head(6), want[i]);
        }
        Checks.fault("X:1\nT:a\nK:Fb", 3, 10);
        Checks.fault("X:1\nT:a\nK:  G#", 3, 12);
        Checks.fault("X:1\nT:a\nK:Cbm", 3, 10);
        Checks.fault("X:1\nT:a\nK:C#lyd", 3, 10);
        Checks.fault("X:1\nT:a\nK:G#x", 3, 10);
        Checks.fault("X:1\nT:a\nK:", 1, 10);
        Checks.fault("X:1\nT:a\nK:c", 1, 10);
        Checks.fault("X:1\nT:a\nK:non", 1, 10);
        Checks.fault("X:1\nT:a\nK:Gmi", 1, 12);
        Checks.fault("X:1\nT:a\nK:Gdo", 1, 11);
        Checks.fault("X:1\nT:a\nK:Gmajo", 1, 14);
        Checks.fault("X:1\nT:a\nK:C##", 1, 12);
        Checks.fault("X:1\nT:a\nK:G min", 1, 11);
        Checks.fault("X:1\nT:a\nK:G \\", 1, 11);
        Checks.tune(0, "X:1\nT:a\nK:G\\", 0);
    }

    private static void order() {
        Checks.fault("T:a\nX:1\nK:C", 1, 0);
        Checks.fault("X:1\nX:1\nT:a\nK:C", 1, 4);
        Checks.fault("X:1\nM:4/4\nT:a\nK:C", 1, 4);
        Checks.fault("X:1\nT:a\nM:4/4\nT:b\nK:C", 1, 14);
        Checks.fault("X:1\nT:a\nT:b\nT:c\nT:d\nK:C", 1, 16);
        Checks.fault("X:1\nT:a\nL:1/8\nL:1/8\nK:C", 1, 14);
        Checks.fault("X:1\nT:a\nQ:8\nQ:9\nK:C", 1, 12);
        Checks.fault("X:1\nT:a\nV:1\nK:C", 1, 8);
        Checks.fault("X:1\nT:a\nK\n", 1, 8);
        Checks.fault("X:1\nT:a\n K:C\n", 1, 8);
        Checks.fault("X:1\nT:a\nABC\n", 1, 8);
        Checks.fault("X1\n", 1, 0);
        Checks.fault("\nX:1\nT:a\nK:C", 1, 0);
        Checks.fault("X:1\nT:a\n\nK:C", 1, 8);
        Checks.fault("X:1\nT:a\n%\nK:C", 1, 8);
        Checks.fault("X:1\nT:a", 1, 7);
        Checks.fault("X:", 1, 2);
        Checks.fault("X:10000\nT:a\nK:C", 1, 2);
        Checks.fault("X:1 2\nT:a\nK:C", 1, 3);
        Checks.fault("X: a\nT:a\nK:C", 1, 3);
        Checks.fault("X:1\nT:a\nQ:1000\nK:C", 1, 10);
        Checks.fault("X:1\nT:a\nQ:0\nK:C", 1, 10);
        Checks.fault("X:1\nT:a\nQ:1/4=100\nK:C", 1, 11);
        Checks.tune(0, "X:1\nT:a\nQ:1\nM:C\nL:1/1\nK:C", 0);
    }

    private static void lines() {
        AbcForms x = Checks.tune(1, Checks.HEADS + "A B %c d\n  c \\\nd\\\n   \\\ne  \n\n  \n%x\n", 5);
        Checks.cells("lines", x, 16, 12, 14, 23, 27, 35);
        Checks.fault(Checks.HEADS + "A\n\nB", 1, 15);
        Checks.fault(Checks.HEADS + "A\n%\n B", 1, 16);
        Checks.fault(Checks.HEADS + "\nA", 1, 13);
        Checks.fault(Checks.HEADS + "A\n\n\n%\n \\", 1, 18);
        Checks.fault(Checks.HEADS + "A\\\\", 1, 13);
        Checks.fault(Checks.HEADS + "A \\ B", 1, 14);
        Checks.fault(Checks.HEADS + "A\nW:b", 1, 14);
        String letters = "aAzZkM";
        for (int i = 0; i < letters.length(); i++) {
            int place = letters.charAt(i) == 'M' ? 16 : 14;
            Checks.fault(Checks.HEADS + "A\n" + letters.charAt(i) + ":|", 1, place);
        }
        Checks.fault(Checks.HEADS + "A\n K:C", 1, 15);
        Checks.fault(Checks.HEADS + "V:0", 1, 14);
        Checks.fault(Checks.HEADS + "V:", 1, 14);
        Checks.fault(Checks.HEADS + "V:1 a", 1, 15);
        Checks.fault(Checks.HEADS + "M:4/5", 1, 16);
        Checks.fault(Checks.HEADS + "K:G#", 3, 14);
    }
}
