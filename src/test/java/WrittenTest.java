/** Promise 15: written. */
public final class WrittenTest {
    public static void main(String[] args) {
        lettersAndOctaves();
        signs();
        lengths();
        changedTimes();
        noSuch();
        Checks.close();
    }

    private static void each(int rule, String text, String... want) {
        AbcForms x = new AbcForms(rule);
        Checks.read(x, text);
        for (int i = 0; i < want.length; i++) {
            Checks.written(x, i, want[i]);
        }
    }

    private static void lettersAndOctaves() {
        each(1, Checks.HEADS + "C c C, c, C' b'' B,,, C,,,,, c'''' ^^B,,,,,,", "C", "c", "C,", "C", "c", "b''", "B,,,", "C,,,,,", "c''''", "^^B,,,,,,");
    }

    private static void signs() {
        each(1, "X:1\nT:a\nK:G\n^f =f =f f ^f ^^f __f _a", "f", "=f", "f", "f", "^f", "^^f", "__f", "_a");
        each(1, Checks.HEADS + "^c ^c' ^c", "^c", "^c'", "c");
        each(0, Checks.HEADS + "^c ^c' ^c =C", "^c", "c'", "c", "=C");
        each(1, Checks.HEADS + "^c-", "^c");
        AbcForms tie = Checks.music("^c-|^c-|=c", 5);
        Checks.written(tie, 2, "c");
        Checks.written(tie, 4, "=c");
        AbcForms chord = Checks.music("[^c^c2]2", 2);
        Checks.written(chord, 0, "^c2");
        Checks.written(chord, 1, "c4");
    }

    private static void lengths() {
        each(1, Checks.HEADS + "A1 A2/2 A/2 A1/2 A2/4 A/4 A// A4/16 A3/2 A3/ A6/4 A64 A63/64 A12/8 A/64 A10 A9 A/8 A9/8",
            "A", "A", "A/", "A/", "A/", "A/4", "A/4", "A/4", "A3/", "A3/", "A3/", "A64", "A63/64", "A3/", "A/64", "A10", "A9", "A/8", "A9/8");
        AbcForms x = Checks.music("A[L:1/4]A[L:1/16]A2", 5);
        Checks.written(x, 0, "A");
        Checks.written(x, 2, "A");
        Checks.written(x, 4, "A2");
    }

    private static void changedTimes() {
        each(1, Checks.HEADS + "A>B A>>B (2cc (3ABC", "A3/", "B/", "A7/4", "B/4", "c3/", "c3/");
        AbcForms x = Checks.music("(3ABC", 3);
        for (int k = -1; k < 3; k++) {
            Checks.due("two thirds", x.written(0, k), AbcForms.BAD);
        }
        each(1, Checks.HEADS + "(3A3A3A3", "A2", "A2", "A2");
    }

    private static void noSuch() {
        AbcForms x = Checks.tune(1, "X:1\nT:a\nM:C\nK:C\nz x Z | {A} [K:C] [M:C] [L:1/64] [A64^A63B/64]2 [L:1/1] [A/64]/64", 13);
        for (int i = -1; i < 14; i++) {
            if (i != 10) {
                for (int k = -1; k < 3; k++) {
                    Checks.due("no such note " + i, x.written(i, k), AbcForms.BAD);
                }
            }
        }
        Checks.written(x, 10, "B/32");
        Checks.due("written(10, -2)", x.written(10, -2), AbcForms.BAD);
        Checks.due("written(10, most)", x.written(10, Integer.MAX_VALUE), AbcForms.BAD);
        Checks.due("written(10, least)", x.written(10, Integer.MIN_VALUE), AbcForms.BAD);
        Checks.due("written(least, 0)", x.written(Integer.MIN_VALUE, 0), AbcForms.BAD);
        Checks.due("written(most, 0)", x.written(Integer.MAX_VALUE, 0), AbcForms.BAD);
    }
}
