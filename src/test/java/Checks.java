/** What all tests share: feeding texts, and counting answers that are not due. */
final class Checks {
    /** The least heads: twelve bytes, so that the music begins at place 12. */
    static final String HEADS = "X:1\nT:a\nK:C\n";
    private static int wrong = 0;
    private static int looked = 0;

    private Checks() {
    }

    static void due(String what, long got, long want) {
        looked++;
        if (got != want) {
            wrong++;
            System.out.println(what.replace("\n", "\\n") + " answered " + got + ", due is " + want);
        }
    }

    static void feed(AbcForms x, String text) {
        for (int i = 0; i < text.length(); i += 20) {
            int[] n = new int[5];
            for (int k = 0; k < 20; k++) {
                int b = i + k < text.length() ? text.charAt(i + k) : 0;
                n[k / 4] = n[k / 4] << 8 | b;
            }
            x.feed(n[0], n[1], n[2], n[3], n[4]);
            if (i + 20 > text.length()) {
                x.end(text.length() - i);
            }
        }
    }

    static int read(AbcForms x, String text) {
        feed(x, text);
        return x.read();
    }

    /** A new object with a tune of so many things. */
    static AbcForms tune(int rule, String text, int things) {
        AbcForms x = new AbcForms(rule);
        due("read() of " + text, read(x, text), things);
        due("place() of " + text, x.place(), AbcForms.NONE);
        return x;
    }

    /** A tune with the least heads. */
    static AbcForms music(String text, int things) {
        return tune(1, HEADS + text, things);
    }

    static void fault(String text, int fault, int place) {
        AbcForms x = new AbcForms(1);
        due("read() of " + text, read(x, text), -10 - fault);
        due("place() of " + text, x.place(), place);
        due("head(0) of " + text, x.head(0), AbcForms.BAD);
    }

    /** A fault in music behind the least heads, its place told from the music's beginning. */
    static void musicFault(String text, int fault, int place) {
        fault(HEADS + text, fault, HEADS.length() + place);
    }

    /** One cell of all things. */
    static void cells(String name, AbcForms x, int what, int... want) {
        for (int i = 0; i < want.length; i++) {
            due(name + ": thing(" + i + ", " + what + ")", x.thing(i, what), want[i]);
        }
    }

    static void times(String name, AbcForms x, long... want) {
        for (int i = 0; i < want.length; i++) {
            due(name + ": time(" + i + ")", x.time(i), want[i]);
        }
    }

    static void starts(String name, AbcForms x, long... want) {
        for (int i = 0; i < want.length; i++) {
            due(name + ": start(" + i + ")", x.start(i), want[i]);
        }
    }

    static void written(AbcForms x, int i, String want) {
        due("written(" + i + ", -1) for " + want, x.written(i, -1), want.length());
        for (int k = 0; k < want.length(); k++) {
            due("written(" + i + ", " + k + ") for " + want, x.written(i, k), want.charAt(k));
        }
        due("written behind " + want, x.written(i, want.length()), AbcForms.BAD);
    }

    static void played(String text, int... want) {
        AbcForms x = new AbcForms(1);
        // the blank keeps a letter with a : behind it from being a change's line
        read(x, "X:1\nT:a\nM:1/8\nK:C\n " + text + "\\");
        due("played(-1) of " + text, x.played(-1), want.length);
        for (int i = 0; i < want.length; i++) {
            due("played(" + i + ") of " + text, x.played(i), want[i]);
        }
        due("played behind " + text, x.played(want.length), AbcForms.BAD);
    }

    static String times(String part, int count) {
        StringBuilder all = new StringBuilder();
        for (int i = 0; i < count; i++) {
            all.append(part);
        }
        return all.toString();
    }

    static void close() {
        System.out.println(looked + " answers, " + wrong + " not as due");
        if (wrong != 0) {
            System.exit(1);
        }
    }
}
