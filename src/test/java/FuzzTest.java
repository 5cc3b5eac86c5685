/** Many texts made by a fixed row of numbers: no call throws, and answers agree with one another. */
public final class FuzzTest {
    private static final String[] PARTS = {"A", "B2", "c/", "^d", "_e'", "=F,", "G3/2", "z", "x2", "Z", "Z2", "|", "||", "|:", ":|", "::",
        "|1", ":|2", "[1", "|]", "[|", "[ceg]", "[A2^c]/2-", "B-", "(3", "(", ")", ">", "<<", "{g}", "{^a_b}", ".", "~", "!trill!", "\"Am\"",
        "[V:2]", "[V:1]", "[K:Eb]", "[M:6/8]", "[L:1/16]", "[M:none]", " ", " ", "\n", "\nK:D\n", "\nV:3\n", "%x\n", "\\\n", "(5:4:3", "(2",
        "A/64", "a8", "T", "u"};
    private static final int[] ODD = {-1, 0, 1, 2, 3, 5, 16, 17, 400, Integer.MAX_VALUE, Integer.MIN_VALUE};
    private static long state = 12345;

    public static void main(String[] args) {
        AbcForms[] held = {new AbcForms(0), new AbcForms(1)};
        int tunes = 0;
        for (int round = 0; round < 20000; round++) {
            AbcForms x = held[round % 2];
            String text = text(round);
            Checks.feed(x, text);
            int things = x.read();
            if (things >= 0) {
                tunes++;
                judge(x, things);
            } else {
                Checks.due("a fault's number", things <= -11 && things >= -16 ? 1 : 0, 1);
                Checks.due("a fault's place", x.place() >= 0 && x.place() <= text.length() ? 1 : 0, 1);
            }
            if (round % 50 == 0) {
                oddCalls(x);
            }
        }
        Checks.due("enough tunes among them", tunes > 2000 ? 1 : 0, 1);
        rewritten();
        Checks.close();
    }

    private static int next(int bound) {
        state = state * 6364136223846793005L + 1442695040888963407L;
        return (int) ((state >>> 33) % bound);
    }

    private static String text(int round) {
        StringBuilder text = new StringBuilder();
        if (round % 10 == 9) {
            int size = next(2401);
            for (int i = 0; i < size; i++) {
                text.append((char) (round % 20 == 9 ? next(256) : 32 + next(95)));
            }
            return text.toString();
        }
        text.append("X:1\nT:a\nM:4/4\nK:C\n");
        int parts = next(12);
        for (int i = 0; i < parts; i++) {
            text.append(PARTS[next(PARTS.length)]);
        }
        if (round % 7 == 0 && text.length() > 0) {
            text.setCharAt(next(text.length()), (char) (32 + next(95)));
        }
        return text.toString();
    }

    private static void judge(AbcForms x, int things) {
        long[] now = new long[4];
        long[] sum = new long[4];
        for (int i = 0; i < things; i++) {
            int voice = x.thing(i, 1);
            Checks.due("start(" + i + ")", x.start(i), x.thing(i, 10) == 0 ? now[voice] : x.start(i - 1));
            if (x.thing(i, 10) == 0) {
                now[voice] += x.time(i);
            }
            if (x.thing(i, 0) == 0) {
                int letter = x.thing(i, 4);
                int pitch = new int[] {0, 2, 4, 5, 7, 9, 11}[letter] + 12 * (x.thing(i, 5) + 1) + x.thing(i, 6);
                Checks.due("pitch", x.thing(i, 3), pitch);
            }
        }
        for (int voice = 1; voice <= 3; voice++) {
            for (int m = 0; m < x.measures(voice); m++) {
                sum[voice] += x.length(voice, m);
            }
            Checks.due("the time of all measures", sum[voice], now[voice]);
        }
        for (int i = 0; i < x.played(-1); i++) {
            Checks.due("a measure", x.played(i) >= 0 && x.played(i) < x.measures(1) ? 1 : 0, 1);
        }
    }

    private static void oddCalls(AbcForms x) {
        for (int a : ODD) {
            x.head(a);
            x.time(a);
            x.start(a);
            x.measures(a);
            x.played(a);
            x.end(a);
            for (int b : ODD) {
                x.title(a, b);
                x.thing(a, b);
                x.full(a, b);
                x.length(a, b);
                x.written(a, b);
            }
        }
    }

    /** One note of a text is put as written() tells it, and is the same note then; without its sign it is another. */
    private static void rewritten() {
        String[] parts = {"A", "^c2", "_c/", "=c3/2", "c", "C", "^C'", "|", "||", "[K:Eb]", "[K:A]", "^c-", "c-", "_B4/2", "=e", "B-", "^^c"};
        for (int round = 0; round < 4000; round++) {
            int count = 1 + next(12);
            String[] text = new String[count];
            for (int i = 0; i < count; i++) {
                text[i] = parts[next(parts.length)];
            }
            AbcForms x = new AbcForms(round % 2);
            Checks.due("all are things", Checks.read(x, Checks.HEADS + String.join(" ", text)), count);
            int i = next(count);
            if (x.thing(i, 0) == 0) {
                oneRewritten(x, text, i);
            }
        }
    }

    private static void oneRewritten(AbcForms x, String[] text, int i) {
        StringBuilder alone = new StringBuilder();
        for (int k = 0; k < x.written(i, -1); k++) {
            alone.append((char) x.written(i, k));
        }
        boolean signed = "^_=".indexOf(alone.charAt(0)) >= 0;
        String tie = x.thing(i, 8) == 1 ? "-" : "";
        text[i] = alone + tie;
        AbcForms y = new AbcForms(x.head(9));
        Checks.read(y, Checks.HEADS + String.join(" ", text));
        Checks.due("pitch of " + alone, y.thing(i, 3), x.thing(i, 3));
        Checks.due("time of " + alone, y.time(i), x.time(i));
        if (signed) {
            text[i] = alone.toString().replace("^", "").replace("_", "").replace("=", "") + tie;
            Checks.read(y, Checks.HEADS + String.join(" ", text));
            Checks.due("another without its sign: " + alone, y.thing(i, 3) != x.thing(i, 3) ? 1 : 0, 1);
        }
    }
}
