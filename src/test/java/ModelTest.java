import java.util.Random;

/** Many texts made by a fixed row of numbers: the class tells of each what the second model tells of it. */
public final class ModelTest {
    private static final String ANY = "ABCDEFGabcdefgzxZ|:[](){}<>!\"^_=,'/-0123456789 \n\\%.~HTMPuvKLMVX#";
    private static final String[] LENGTHS = {"", "", "", "", "", "2", "3", "4", "/", "//", "///", "3/2", "3/", "/4", "/8", "5/4", "7", "64",
        "/64", "//////", "16", "7/8"};
    private static final String[] METERS = {"C", "C|", "none", "4/4", "3/4", "6/8", "9/8", "12/8", "2/4", "5/16", "1/32", "32/1"};
    private static final String[] MODES = {"", "", "", "m", "maj", "min", "ion", "aeo", "dor", "phr", "lyd", "mix", "loc"};
    private static final String[] BARS = {"|", "|", "|", "|", "||", "|]", "[|", "|:", ":|", "::", "|1", "|2", ":|2", ":|1", "[1", "[2", "|3",
        "[4", ":||:", "|||"};
    private static final String[] MANY = {"C|", "|:", ":|", "C:|", "C|1", "C:|2", "C||", "C::", "Z3", "Z16", "[V:2]C|[V:1]", "C", "z", "{CE}",
        "[CEG]", "[K:C]", "CC"};
    private static final Random NEXT = new Random(20261118);

    public static void main(String[] args) {
        AbcForms[] held = {new AbcForms(0), new AbcForms(1)};
        int[] told = new int[7];
        for (int round = 0; round < 30000; round++) {
            String text = round % 8 == 7 ? manyThings() : some();
            text = text.substring(0, Math.min(2400, text.length()));
            int rule = round % 2;
            String want = SecondModel.tell(text, rule);
            String got = tell(held[rule], text);
            Checks.due("rule " + rule + " of " + text + "\n" + firstOther(got, want), got.equals(want) ? 1 : 0, 1);
            told[want.startsWith("-1") ? want.charAt(2) - '0' : 0]++;
        }
        for (int fault = 0; fault < told.length; fault++) {
            Checks.due("enough texts with fault " + fault, told[fault] > 500 ? 1 : 0, 1);
        }
        Checks.close();
    }

    private static String firstOther(String got, String want) {
        String[] one = got.split("\n");
        String[] other = want.split("\n");
        for (int i = 0; i < Math.min(one.length, other.length); i++) {
            if (!one[i].equals(other[i])) {
                return "line " + i + " is " + one[i] + ", due is " + other[i] + ";";
            }
        }
        return "";
    }

    // all answers of the class, as the second model tells them

    private static String tell(AbcForms x, String text) {
        int things = Checks.read(x, text);
        StringBuilder all = new StringBuilder(things + " at " + x.place());
        if (things < 0) {
            return all.toString();
        }
        all.append('\n');
        for (int what = 0; what < 10; what++) {
            all.append(what > 0 ? " " : "").append(x.head(what));
        }
        for (int i = 0; i < x.head(1); i++) {
            all.append("\ntitle ");
            for (int k = 0; k < x.title(i, -1); k++) {
                all.append((char) x.title(i, k));
            }
        }
        all.append('\n');
        for (int i = 0; i < things; i++) {
            for (int what = 0; what < 17; what++) {
                all.append(x.thing(i, what)).append(' ');
            }
            all.append(x.time(i)).append(' ').append(x.start(i)).append(' ').append(written(x, i)).append('\n');
        }
        for (int voice = 1; voice <= 3; voice++) {
            all.append("voice");
            for (int m = 0; m < x.measures(voice); m++) {
                all.append(' ').append(x.length(voice, m)).append(x.full(voice, m) == 1 ? " full" : " not");
            }
            all.append('\n');
        }
        all.append("played [");
        for (int i = 0; i < x.played(-1); i++) {
            all.append(i > 0 ? ", " : "").append(x.played(i));
        }
        return all.append(']').toString();
    }

    private static String written(AbcForms x, int i) {
        if (x.written(i, -1) < 0) {
            return "BAD";
        }
        StringBuilder row = new StringBuilder();
        for (int k = 0; k < x.written(i, -1); k++) {
            row.append((char) x.written(i, k));
        }
        return row.toString();
    }

    // texts

    private static int upTo(int bound) {
        return NEXT.nextInt(bound);
    }

    private static String one(String... row) {
        return row[upTo(row.length)];
    }

    private static String byteOf(String row) {
        return String.valueOf(row.charAt(upTo(row.length())));
    }

    private static String blanks() {
        return one("", "", "", " ", "  ");
    }

    private static String meter() {
        return upTo(4) > 0 ? one(METERS) : 1 + upTo(32) + "/" + (1 << upTo(6));
    }

    private static String unit() {
        return "1/" + (1 << upTo(7));
    }

    private static String key() {
        return upTo(9) == 0 ? "none" : byteOf("ABCDEFG") + one("", "", "", "#", "b") + one(MODES);
    }

    private static String length() {
        return upTo(12) > 0 ? one(LENGTHS) : 1 + upTo(64) + "/" + (1 << upTo(7));
    }

    private static String note() {
        return one("", "", "", "", "^", "_", "=", "^^", "__") + byteOf("CDEFGABcdefgab") + one("", "", "", "", "'", ",", "''", ",,", "',") + length();
    }

    private static String notes(int most) {
        StringBuilder row = new StringBuilder(note());
        for (int i = upTo(upTo(4) == 0 ? most : 3); i > 0; i--) {
            row.append(note());
        }
        return row.toString();
    }

    private static String timed() {
        int kind = upTo(14);
        if (kind < 10) {
            return note() + one("", "", "", "-");
        }
        return kind < 12 ? "[" + notes(13) + "]" + length() + one("", "", "-") : one("z", "x") + length();
    }

    private static String change() {
        return one("V:" + blanks() + (1 + upTo(3)), "V:1", "M:" + blanks() + meter(), "L:" + unit(), "K:" + blanks() + key());
    }

    private static String tuplet() {
        StringBuilder row = new StringBuilder("(" + byteOf("23456789333") + one("", "", "", "", ":", ":2", "::", ":3:2", "::2", ":2:", ":3:4"));
        for (int i = upTo(5); i >= 0; i--) {
            row.append(blanks()).append(timed());
        }
        return row.toString();
    }

    private static String item() {
        int kind = upTo(50);
        if (kind < 25) {
            return timed();
        }
        if (kind < 33) {
            return one(BARS);
        }
        switch (kind) {
            case 33, 34, 35, 36:
                return timed() + blanks() + one(">", "<", ">>", "<<", ">>>", "<<<") + blanks() + timed();
            case 37, 38:
                return "[" + change() + blanks() + "]";
            case 39, 40:
                return tuplet();
            case 41, 42:
                return "(" + timed() + blanks() + timed() + ")";
            case 43:
                return byteOf("()");
            case 44:
                return "Z" + one("", "", "2", "3", "16", "1");
            case 45:
                return "{" + notes(9) + "}";
            case 46, 47, 48:
                return byteOf(".~HTMPuv");
            default:
                return one("!trill!", "\"Am\"", "\"\"", "\"" + "x".repeat(18 + upTo(4)) + "\"", "!" + "x".repeat(upTo(14)) + "!");
        }
    }

    private static String heads() {
        StringBuilder text = new StringBuilder("X:" + blanks() + (1 + upTo(9999)) + "\n");
        for (int i = upTo(3); i >= 0; i--) {
            text.append("T:").append(blanks()).append(one("a", "", "A song", "t x ")).append(one("", " % c", " ", "\\", " \\")).append('\n');
        }
        text.append(one("", "L:" + unit() + "\n")).append(one("", "M:" + meter() + "\n", "M:" + meter() + "\n"));
        text.append(one("", "", "L:" + unit() + "\n")).append(one("", "", "Q:" + (1 + upTo(999)) + "\n"));
        return text.append("K:").append(blanks()).append(key()).append(blanks()).append('\n').toString();
    }

    private static String some() {
        StringBuilder text = new StringBuilder(heads());
        for (int lines = 1 + upTo(4); lines > 0; lines--) {
            if (upTo(8) == 0) {
                text.append(change()).append(blanks());
            } else {
                text.append(blanks());
                for (int items = 1 + upTo(12); items > 0; items--) {
                    text.append(item()).append(one("", " "));
                }
                text.append(one("", "", " ", "\\", " \\", "% x", " %"));
            }
            text.append('\n');
        }
        text.append(one("", "", "", "\n", "\n% x\n\n"));
        return upTo(5) < 2 ? changed(text) : text.toString();
    }

    private static String changed(StringBuilder text) {
        for (int times = upTo(3); times >= 0 && text.length() > 0; times--) {
            int place = upTo(text.length());
            switch (upTo(4)) {
                case 0:
                    text.insert(place, byteOf(ANY));
                    break;
                case 1:
                    text.deleteCharAt(place);
                    break;
                case 2:
                    text.setCharAt(place, upTo(12) == 0 ? (char) upTo(256) : byteOf(ANY).charAt(0));
                    break;
                default:
                    text.insert(place, text.substring(place, Math.min(text.length(), place + upTo(6))));
                    break;
            }
        }
        return text.toString();
    }

    /** Texts about as long, and with about as many things and measures, as may be. */
    private static String manyThings() {
        StringBuilder text = new StringBuilder("X:1\nT:a\nM:" + one("1/32", "4/4", "4/4", "none") + "\nL:1/8\nK:C\n");
        int kinds = 1 + upTo(MANY.length);
        for (int items = 100 + upTo(320); items > 0; items--) {
            text.append(MANY[upTo(kinds)]).append(upTo(40) == 0 ? "\n " : "");
        }
        text.append(one("", "%" + (char) upTo(256), "?", "Z2", "[CE]", "{C}", "[K:C]", "z"));
        int size = upTo(3) == 0 ? 1990 + upTo(20) : 0;
        while (text.length() < size) {
            text.append(' ');
        }
        return text.toString();
    }
}
