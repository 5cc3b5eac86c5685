/** Promise 14: played. */
public final class PlayedTest {
    public static void main(String[] args) {
        plain();
        repeats();
        endings();
        zs();
        wrongNumbers();
        Checks.close();
    }

    private static void plain() {
        Checks.played("");
        Checks.played("|");
        Checks.played("A", 0);
        Checks.played("A|B||C|]D", 0, 1, 2, 3);
        Checks.played("A[V:2]B:|C|[V:1]|D", 0, 1);
    }

    private static void repeats() {
        Checks.played("A:|", 0, 0);
        Checks.played("A|B:|C", 0, 1, 0, 1, 2);
        Checks.played("A|:B:|C", 0, 1, 1, 2);
        Checks.played("|:A::B:|", 0, 0, 1, 1);
        Checks.played("|:A:||:B:|C:|", 0, 0, 1, 1, 2, 2);
        Checks.played("A:|B:|C", 0, 0, 1, 1, 2);
        Checks.played("|:A|:B:|", 0, 1, 1);
        Checks.played("|:A||B:|", 0, 1, 0, 1);
        Checks.played("|:A", 0);
        Checks.played(":|A|", 0);
        Checks.played("A:|:|B", 0, 0, 1);
        Checks.played("A:| |:B", 0, 0, 1);
    }

    private static void endings() {
        Checks.played("A|1B:|2C|D", 0, 1, 0, 2, 3);
        Checks.played("A[1B:|[2C|]D:|", 0, 1, 0, 2, 3, 3);
        Checks.played("|:A|1B|C:|2D|E||F", 0, 1, 2, 0, 3, 4, 5);
        Checks.played("A|2B|C||D:|E", 0, 3, 0, 1, 2, 3, 3, 4);
        Checks.played("[1A:|[2B|C", 0, 1, 2);
        Checks.played("|2A|B");
        Checks.played("|2A||B", 1);
        Checks.played("A|1B:|3C:|D", 0, 1, 0, 2, 3);
        Checks.played("A|1B:|4C|1D:|E", 0, 1, 0, 2, 3, 4);
        Checks.played("A|1 |2 B|C:|D", 0, 3);
        Checks.played("|:A|1B:|2C:|D:|", 0, 1, 0, 2, 3, 3);
        Checks.played("A|1B|C|D", 0, 1, 2, 3);
    }

    private static void zs() {
        Checks.played("Z2:|A", 0, 1, 0, 1, 2);
        Checks.played("|1Z2:|Z3|", 0, 1, 2, 3, 4);
        int[] twice = new int[600];
        for (int i = 0; i < 600; i++) {
            twice[i] = i % 300;
        }
        Checks.played(Checks.times("Z16|", 18) + "Z12:|", twice);
    }

    private static void wrongNumbers() {
        AbcForms x = Checks.music("|2A|B", 4);
        Checks.due("none is played", x.played(-1), 0);
        Checks.due("the next tune", Checks.read(x, Checks.HEADS + "|A:|B"), 4);
        Checks.due("played(-1)", x.played(-1), 3);
        Checks.due("played(3)", x.played(3), AbcForms.BAD);
        Checks.due("played(-2)", x.played(-2), AbcForms.BAD);
        Checks.due("played(most)", x.played(Integer.MAX_VALUE), AbcForms.BAD);
        Checks.due("played(least)", x.played(Integer.MIN_VALUE), AbcForms.BAD);
    }
}
