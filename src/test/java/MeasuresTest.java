/** Promises 11, 12 and 13: measures, full, length. */
public final class MeasuresTest {
    private static final long E = 1290240 / 8;

    public static void main(String[] args) {
        counted();
        judged();
        barsOfRest();
        meterOfItsBeginning();
        ofThings();
        wrongNumbers();
        Checks.close();
    }

    private static void counted() {
        Checks.due("none", Checks.music("", 0).measures(1), 0);
        Checks.due("bars alone", Checks.music("| || |:", 3).measures(1), 0);
        Checks.due("graces alone", Checks.music("{A}|{B}|", 4).measures(1), 0);
        Checks.due("one begun", Checks.music("A", 1).measures(1), 1);
        Checks.due("one ended", Checks.music("A|", 2).measures(1), 1);
        Checks.due("two", Checks.music("|A||[|[1B:|", 7).measures(1), 2);
        Checks.due("a bar with an ending ends one", Checks.music("A[1B", 3).measures(1), 2);
        AbcForms x = Checks.music("A|B[V:2]c|[V:1]d|\nV:3\n", 7);
        Checks.due("voice 1", x.measures(1), 2);
        Checks.due("voice 2", x.measures(2), 1);
        Checks.due("voice 3", x.measures(3), 0);
    }

    private static void judged() {
        AbcForms x = Checks.tune(1, "X:1\nT:a\nM:3/4\nK:C\nA2|B6|c3>d3|[A6B]|[AB6]|z3x3|(3A2A2A2 c2|A7|", 23);
        int[] full = {0, 1, 1, 1, 0, 1, 1, 0};
        long[] length = {2, 6, 6, 6, 1, 6, 6, 7};
        for (int m = 0; m < full.length; m++) {
            Checks.due("full(1, " + m + ")", x.full(1, m), full[m]);
            Checks.due("length(1, " + m + ")", x.length(1, m), length[m] * E);
        }
        AbcForms free = Checks.music("A|B6|", 4);
        Checks.due("without a meter", free.full(1, 0), 1);
        Checks.due("without a meter, too", free.full(1, 1), 1);
    }

    private static void barsOfRest() {
        AbcForms x = Checks.tune(1, "X:1\nT:a\nM:2/4\nL:1/8\nK:C\nZ3|Z A|B Z2 c4|Z|", 11);
        Checks.due("measures", x.measures(1), 7);
        long[] length = {4, 4, 4, 5, 5, 8, 4};
        int[] full = {1, 1, 1, 0, 0, 0, 1};
        for (int m = 0; m < length.length; m++) {
            Checks.due("length " + m, x.length(1, m), length[m] * E);
            Checks.due("full " + m, x.full(1, m), full[m]);
        }
        Checks.cells("measures", x, 2, 0, 2, 3, 3, 3, 4, 4, 5, 5, 6, 6);
    }

    private static void meterOfItsBeginning() {
        AbcForms x = Checks.tune(1, "X:1\nT:a\nM:2/8\nL:1/8\nK:C\n[M:3/8]A[M:2/8]AA|[M:none]A[M:C]|A|\nM:1/8\nV:2\nA2|[M:1/8]A|", 18);
        Checks.due("ahead of its first timed", x.full(1, 0), 1);
        Checks.due("none then", x.full(1, 1), 1);
        Checks.due("told within the last", x.full(1, 2), 0);
        Checks.due("another VOICE's", x.full(2, 0), 1);
        Checks.due("its own", x.full(2, 1), 1);
    }

    private static void ofThings() {
        AbcForms x = Checks.music("|{g}A[K:C]|[L:1/8]|{a}|B:|[V:2]|A|", 14);
        Checks.cells("measures", x, 2, 0, 0, 0, 0, 0, 1, 1, 1, 1, 1, 1, 0, 0, 0);
    }

    private static void wrongNumbers() {
        AbcForms x = Checks.music("A|B|", 4);
        int[] wrong = {0, 4, -1, Integer.MAX_VALUE, Integer.MIN_VALUE};
        for (int i = 0; i < wrong.length; i++) {
            Checks.due("measures(" + wrong[i] + ")", x.measures(wrong[i]), AbcForms.BAD);
            Checks.due("full(" + wrong[i] + ", 0)", x.full(wrong[i], 0), AbcForms.BAD);
            Checks.due("length(" + wrong[i] + ", 0)", x.length(wrong[i], 0), AbcForms.BAD);
        }
        int[] measure = {-1, 2, 300, Integer.MAX_VALUE, Integer.MIN_VALUE};
        for (int i = 0; i < measure.length; i++) {
            Checks.due("full(1, " + measure[i] + ")", x.full(1, measure[i]), AbcForms.BAD);
            Checks.due("length(1, " + measure[i] + ")", x.length(1, measure[i]), AbcForms.BAD);
        }
        Checks.due("full(2, 0)", x.full(2, 0), AbcForms.BAD);
        Checks.due("length(2, 0)", x.length(2, 0), AbcForms.BAD);
    }
}
