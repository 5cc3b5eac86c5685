/** Promises 1 to 5: a new object, feed, end, read, place. */
public final class TapeTest {
    private static final int BLANKS = 0x20202020;

    public static void main(String[] args) {
        newObject();
        feedAndEnd();
        readEmptiesTheTape();
        placeIsOfTheLatest();
        firstFaults();
        Checks.close();
    }

    private static void newObject() {
        int[] rules = {Integer.MIN_VALUE, -1, 0, 1, 2, Integer.MAX_VALUE};
        for (int i = 0; i < rules.length; i++) {
            AbcForms x = new AbcForms(rules[i]);
            Checks.due("place() of a new object", x.place(), AbcForms.NONE);
            Checks.due("head(9) of a new object", x.head(9), AbcForms.BAD);
            Checks.due("played(-1) of a new object", x.played(-1), AbcForms.BAD);
            Checks.due("measures(1) of a new object", x.measures(1), AbcForms.BAD);
            Checks.due("full(1, 0) of a new object", x.full(1, 0), AbcForms.BAD);
            Checks.due("length(1, 0) of a new object", x.length(1, 0), AbcForms.BAD);
            Checks.due("title(0, -1) of a new object", x.title(0, -1), AbcForms.BAD);
            Checks.due("written(0, -1) of a new object", x.written(0, -1), AbcForms.BAD);
            Checks.due("end(0) of an empty tape", x.end(0), AbcForms.BAD);
            Checks.due("read()", Checks.read(x, Checks.HEADS), 0);
            Checks.due("RULE of " + rules[i], x.head(9), i < 3 ? 0 : 1);
        }
    }

    private static void feedAndEnd() {
        AbcForms x = new AbcForms(0);
        for (int i = 1; i <= 120; i++) {
            Checks.due("feed " + i, x.feed(BLANKS, BLANKS, BLANKS, BLANKS, BLANKS), 20 * i);
        }
        Checks.due("feed above 2,400", x.feed(0, 0, 0, 0, 0), AbcForms.FULL);
        Checks.due("end(-1)", x.end(-1), AbcForms.BAD);
        Checks.due("end(21)", x.end(21), AbcForms.BAD);
        Checks.due("end(20)", x.end(20), 2400);
        Checks.due("end(19)", x.end(19), 2399);
        Checks.due("feed at 2,399", x.feed(0, 0, 0, 0, 0), AbcForms.FULL);
        Checks.due("end(0)", x.end(0), 2379);
        Checks.due("feed at 2,379", x.feed(0, 0, 0, 0, 0), 2399);
        Checks.due("end(2)", x.end(2), 2381);
        Checks.due("feed at 2,381", x.feed(0, 0, 0, 0, 0), AbcForms.FULL);
        Checks.due("end(19) again", x.end(19), 2380);
        Checks.due("feed at 2,380", x.feed(0, 0, 0, 0, 0), 2400);
        AbcForms y = new AbcForms(0);
        y.feed(1, 2, 3, 4, 5);
        Checks.due("end(5)", y.end(5), 5);
        Checks.due("end with five", y.end(5), AbcForms.BAD);
        Checks.due("feed behind five", y.feed(1, 2, 3, 4, 5), 25);
        Checks.due("end(0) with 25", y.end(0), 5);
    }

    private static void readEmptiesTheTape() {
        AbcForms x = new AbcForms(0);
        Checks.due("read()", Checks.read(x, Checks.HEADS + "AB"), 2);
        Checks.due("the tape is empty", x.feed(0x41414141, 0x41414141, 0x41414141, 0x41414141, 0x41414141), 20);
        Checks.due("the tune stays while feeding", x.head(7), 2);
        Checks.due("highest byte first", x.thing(1, 3), 71);
        Checks.due("read() of letters", x.read(), -11);
        Checks.due("no tune any more", x.head(7), AbcForms.BAD);
        Checks.due("nothing of the tape stays", Checks.read(x, Checks.HEADS + "c"), 1);
        Checks.due("its note", x.thing(0, 3), 72);
        Checks.due("the same object's next one", Checks.read(x, Checks.HEADS), 0);
        Checks.due("no thing is left", x.thing(0, 0), AbcForms.BAD);
    }

    private static void placeIsOfTheLatest() {
        AbcForms x = new AbcForms(0);
        Checks.due("read() of nothing", x.read(), -11);
        Checks.due("its place", x.place(), 0);
        Checks.due("read() of a tune", Checks.read(x, Checks.HEADS), 0);
        Checks.due("no place", x.place(), AbcForms.NONE);
        Checks.due("feed leaves it", x.feed(0, 0, 0, 0, 0), 20);
        Checks.due("no place yet", x.place(), AbcForms.NONE);
        x.read();
        Checks.due("its place", x.place(), 0);
    }

    private static void firstFaults() {
        String rest = Checks.HEADS + "%" + Checks.times("x", 2000 - Checks.HEADS.length() - 1);
        Checks.tune(0, rest, 0);
        Checks.fault(rest + "x", 2, 2000);
        Checks.fault((char) 200 + rest, 2, 2000);
        Checks.fault(Checks.HEADS + "?" + (char) 9, 1, 13);
        Checks.fault("X:0\nT:a\nK:C\nA\n\n" + (char) 127, 1, 15);
        Checks.fault(Checks.HEADS + "A" + (char) 13 + "\nB", 1, 13);
        Checks.tune(0, Checks.HEADS + "A % " + (char) 200 + (char) 9 + (char) 0 + "\nB", 2);
        Checks.fault(Checks.HEADS + "A % " + (char) 200 + "\n" + (char) 31, 1, 18);
    }
}
