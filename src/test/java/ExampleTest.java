/** What README.md shows: a text is put on the tape, read, and asked about; each answer is the one that is shown there. */
public final class ExampleTest {
    private static final String TEXT = "X:7\nT:A song\nM:3/4\nL:1/8\nK:G\n|: G2 ^c>c [Bd]2 | f2 =f2 f2 :|\n";

    public static void main(String[] args) {
        AbcForms x = new AbcForms(1);
        put(x, TEXT);
        Checks.due("read()", x.read(), 11);
        Checks.due("place()", x.place(), AbcForms.NONE);
        aboutTheTune(x);
        aboutOneNote(x);
        aboutAFault(x);
        Checks.close();
    }

    /** Twenty bytes a call, the highest of each number first; what is too much of the last twenty is taken away. */
    private static void put(AbcForms x, String text) {
        for (int i = 0; i < text.length(); i += 20) {
            int[] n = new int[5];
            for (int k = 0; k < 20; k++) {
                n[k / 4] = n[k / 4] << 8 | (i + k < text.length() ? text.charAt(i + k) : 0);
            }
            x.feed(n[0], n[1], n[2], n[3], n[4]);
        }
        int left = text.length() % 20;
        if (left > 0) {
            x.end(left);
        }
    }

    private static void aboutTheTune(AbcForms x) {
        Checks.due("head(0)", x.head(0), 7);
        Checks.due("head(6)", x.head(6), 1);
        Checks.due("title(0, -1)", x.title(0, -1), 6);
        Checks.due("title(0, 0)", x.title(0, 0), 'A');
        Checks.due("measures(1)", x.measures(1), 2);
        Checks.due("length(1, 0)", x.length(1, 0), 967680);
        Checks.due("full(1, 0)", x.full(1, 0), 1);
        Checks.due("played(-1)", x.played(-1), 4);
        Checks.due("played(2)", x.played(2), 0);
    }

    private static void aboutOneNote(AbcForms x) {
        Checks.due("thing(2, 0)", x.thing(2, 0), 0);
        Checks.due("thing(2, 3)", x.thing(2, 3), 73);
        Checks.due("thing(2, 6)", x.thing(2, 6), 1);
        Checks.due("time(2)", x.time(2), 241920);
        Checks.due("start(2)", x.start(2), 322560);
        Checks.written(x, 2, "^c3/");
        Checks.written(x, 3, "c/");
    }

    private static void aboutAFault(AbcForms x) {
        put(x, "X:7\nT:A song\nK:G\nG2 ? A\n");
        Checks.due("read()", x.read(), -11);
        Checks.due("place()", x.place(), 20);
        Checks.due("head(0)", x.head(0), AbcForms.BAD);
    }
}
