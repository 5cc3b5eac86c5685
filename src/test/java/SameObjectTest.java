/** An object that has read before answers as a new one does, and what end() took from the tape is never read. */
public final class SameObjectTest {
    private static final String MANY = "X:77\nT:one\nT: two\nT:three\nQ:99\nM:3/8\nL:1/16\nK:A\n";

    private static final String[] TEXTS = {
        MANY + "^c-|[ce]{^g}.\"x\"(a)>b|1Z2:|2(3ABc\nV:2\n[K:Eb]_e [M:2/4]e [L:1/2]e-|\nV:3\n=c z x |: d :|\n",
        Checks.HEADS + "c [ce] {g} a | z | b | e | c :| d | e | f | g\nV:2\ne c e|c\nV:3\nc c|",
        Checks.HEADS + "c [ce] {g} a (3 ^^g (",
        Checks.HEADS + "(( .~H \"w\" [K:Cb][M:6/8][L:1/64] _c- ?",
        MANY + "^c-^d-|: [1 Z16 Z16 Z16 (5 b ) )",
        Checks.HEADS + "A > ",
        Checks.HEADS + "(9:8:9 A < ^B",
        "X:1\nT:a\nM:3/8\nL:1/4\nQ:9\nM:3/8\nK:C",
        "X:1\nT:a\nT:b\nT:c\nT:d",
        "X:1\nT:a\nL:1/4\nL:1/4",
        "X:1\nT:a\nQ:4\nQ:4",
        "X:1\nT:z\nL:1/32\nQ:5\nM:C|\nK:Gmix\nf F z3 | {c} f2",
        "X:1\nT:z\nM:2/4\nK:none\nc- c | f B | Z | c",
        Checks.HEADS + ")",
        Checks.HEADS + "() c )",
        Checks.HEADS + "^c-",
        Checks.HEADS + "{_c}|c",
        "X:1\nT:a\nK:D\nC,,,,",
        Checks.HEADS,
        "",
        "?",
        Checks.HEADS + Checks.times("A/", 400),
        Checks.HEADS + Checks.times("|", 401)
    };

    public static void main(String[] args) {
        oneBehindTheOther();
        allInARow();
        cutOff();
        Checks.close();
    }

    private static void oneBehindTheOther() {
        for (int first = 0; first < TEXTS.length; first++) {
            for (int second = 0; second < TEXTS.length; second++) {
                AbcForms used = new AbcForms(first % 2);
                AbcForms fresh = new AbcForms(first % 2);
                Checks.read(used, TEXTS[first]);
                same(first + " then " + second, used, fresh, TEXTS[second], TEXTS[second]);
            }
        }
    }

    private static void allInARow() {
        AbcForms used = new AbcForms(1);
        for (int round = 0; round < 2; round++) {
            for (int k = 0; k < TEXTS.length; k++) {
                same("all, " + k, used, new AbcForms(1), TEXTS[k], TEXTS[k]);
            }
        }
    }

    /** The used object has longer texts on its tape, of which end() leaves a part: that part alone is read. */
    private static void cutOff() {
        String[] whole = {"X:1234\n", "X:1\nT:abcd\nK:Gminnn", "X:1\nT:a\nM:12/16\nK", "X:1\nT:a\nL:1/16\nK:", Checks.HEADS + "A2345///", Checks.HEADS + "^^A''//",
            Checks.HEADS + "[ce]64-", Checks.HEADS + "||:::|1", Checks.HEADS + "[1[|]|:", Checks.HEADS + "(3:4:55", Checks.HEADS + "!abc!\"\"", Checks.HEADS + "A>>>B-A",
            Checks.HEADS + "[K:Gmi", Checks.HEADS + "[M:C|]A", Checks.HEADS + "A%bcd\nA", Checks.HEADS + "A \\  % ", Checks.HEADS + "{^ab2}c"};
        for (int k = 0; k < whole.length; k++) {
            for (int size = 0; size <= whole[k].length(); size++) {
                AbcForms used = new AbcForms(0);
                String part = whole[k].substring(0, size);
                same("cut " + part, used, new AbcForms(0), whole[k], part);
            }
        }
    }

    private static void same(String name, AbcForms used, AbcForms fresh, String fed, String text) {
        feedAndCut(used, fed, text.length());
        Checks.feed(fresh, text);
        int things = fresh.read();
        Checks.due(name + ": read()", used.read(), things);
        Checks.due(name + ": place()", used.place(), fresh.place());
        for (int i = -1; i <= 10; i++) {
            Checks.due(name + ": head", used.head(i), fresh.head(i));
            for (int k = -1; k <= 6; k++) {
                Checks.due(name + ": title", used.title(i, k), fresh.title(i, k));
            }
        }
        for (int i = 0; i <= Math.max(0, things); i++) {
            for (int what = 0; what <= 16; what++) {
                Checks.due(name + ": thing(" + i + ", " + what + ")", used.thing(i, what), fresh.thing(i, what));
            }
            Checks.due(name + ": time(" + i + ")", used.time(i), fresh.time(i));
            Checks.due(name + ": start(" + i + ")", used.start(i), fresh.start(i));
            for (int k = -1; k <= 6; k++) {
                Checks.due(name + ": written(" + i + ", " + k + ")", used.written(i, k), fresh.written(i, k));
            }
        }
        sameMeasures(name, used, fresh);
    }

    private static void sameMeasures(String name, AbcForms used, AbcForms fresh) {
        for (int voice = 1; voice <= 3; voice++) {
            Checks.due(name + ": measures(" + voice + ")", used.measures(voice), fresh.measures(voice));
            for (int m = 0; m <= Math.max(0, fresh.measures(voice)); m++) {
                Checks.due(name + ": full(" + voice + ", " + m + ")", used.full(voice, m), fresh.full(voice, m));
                Checks.due(name + ": length(" + voice + ", " + m + ")", used.length(voice, m), fresh.length(voice, m));
            }
        }
        for (int i = -1; i <= Math.max(0, fresh.played(-1)); i++) {
            Checks.due(name + ": played(" + i + ")", used.played(i), fresh.played(i));
        }
    }

    /** All is fed but the last twenty bytes or fewer, then twenty at once, of which so many stay as the text has. */
    private static void feedAndCut(AbcForms x, String fed, int size) {
        int ahead = size / 20 * 20;
        Checks.feed(x, fed.substring(0, ahead));
        if (size > ahead) {
            StringBuilder last = new StringBuilder(fed.substring(ahead, Math.min(fed.length(), ahead + 20)));
            while (last.length() < 20) {
                last.append('3');
            }
            Checks.feed(x, last.toString());
            x.end(size - ahead);
        }
    }
}
