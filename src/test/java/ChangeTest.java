/** Promises 21 and 22: change, mend. */
public final class ChangeTest {
    public static void main(String[] args) {
        change();
        inMind();
        sameTelling();
        fewerThenLeast();
        byAll();
        Due.end();
    }

    private static void change() {
        WordsTold x = Due.with(0, "aWb", "bWa");
        Due.type(x, "aS");
        Due.due("no book", x.change(2, 0), -1);
        Due.due("no book", x.change(-1, 0), -1);
        Due.due("no telling", x.change(0, 2), -1);
        Due.due("no telling", x.change(0, -1), -1);
        Due.due("none in book 1", x.change(1, 0), -1);
        Due.due("the tape stays", x.count(3), 2);
        Due.due("aS for telling 0", x.change(0, 0), 0);
        Due.due("the tape has none", x.count(3), 0);
        Due.due("of another word", Due.alter(x, 0, 0, "bS"), -3);
        Due.due("the tape has none", x.count(3), 0);
        Due.due("a fault ahead of another word", Due.alter(x, 0, 0, "bSa"), -22);
        Due.due("the tape has none", x.count(3), 0);
        Due.due("an empty tape", x.change(0, 0), -20);
        Due.due("one change", x.count(2), 1);
        Due.due("the same again", Due.alter(x, 0, 0, "aS"), 1);
        Due.due("in book 1", Due.tell(x, 1, "cS"), 0);
        Due.due("of book 1", Due.alter(x, 1, 0, "cRa"), 2);
        Due.due("the fourth", Due.alter(x, 0, 1, "bLacdefghi"), 3);
        Due.type(x, "bSSSS");
        Due.due("a fifth", x.change(0, 1), -6);
        Due.due("nobody ahead of room", x.change(0, 2), -1);
        Due.due("the tape stays", x.count(3), 5);
        Due.due("four changes", x.count(2), 4);
        Due.due("it does not become so", x.tellingOf(0, 0, 1), 0);
        Due.due("counted", x.count(11) * 100 + x.count(13) * 10 + x.count(16), 611);
    }

    private static void inMind() {
        WordsTold x = Due.with(0, "aWb", "bWa", "cRa");
        Due.due("none", x.mend(0), 0);
        Due.alter(x, 0, 0, "aS");
        Due.due("a is shown", x.mend(0), 1);
        Due.alter(x, 0, 2, "cWab");
        Due.due("c is told too", x.mend(0), 3);
        Due.due("in mind alone", x.fewest(0), 4095 - 2);
        Due.due("in mind alone", x.tellingOf(0, 2, 1), 5);
        Due.due("the other book", x.mend(1), 0);
        Due.tell(x, 1, "lRa");
        Due.alter(x, 1, 0, "lS");
        Due.due("changes of the other never", x.mend(0), 3);
        Due.due("changes of the other never", x.mend(1), 4);
        Due.alter(x, 0, 1, "bRa");
        Due.due("none that makes it worse", x.mend(0), 3);
        Due.due("no book", x.mend(2), -1);
        Due.due("no book", x.mend(-1), -1);
        Due.due("NOBODY counted", x.count(11), 2);
    }

    private static void sameTelling() {
        WordsTold x = Due.with(0, "aRb", "bRa");
        Due.alter(x, 0, 0, "aS");
        Due.alter(x, 0, 0, "aRc");
        Due.due("the first alone", x.mend(0), 1);
        Due.alter(x, 0, 0, "aLb");
        Due.due("of as good ones the least", x.mend(0), 1);
        Due.alter(x, 0, 1, "bWa");
        Due.due("aS, bWa", x.mend(0), 9);
        x = Due.with(0, "aRb", "bRa");
        Due.alter(x, 0, 0, "aRc");
        Due.alter(x, 0, 0, "aS");
        Due.due("the greatest number alone", x.mend(0), 2);
    }

    private static void fewerThenLeast() {
        WordsTold x = Due.with(0, "aRb", "cRd", "eRf");
        Due.alter(x, 0, 0, "aWb");
        Due.alter(x, 0, 1, "cWd");
        Due.alter(x, 0, 0, "aLb");
        Due.due("of as many changes the least", x.mend(0), 3);
        x = Due.with(0, "aRbc", "bS");
        Due.alter(x, 0, 0, "aWbc");
        Due.alter(x, 0, 1, "bRa");
        Due.due("fewer changes", x.mend(0), 1);
        x = Due.with(0, "aRb", "aRc", "bRa");
        Due.alter(x, 0, 0, "aWb");
        Due.alter(x, 0, 1, "aWb");
        Due.due("of two tellings the least", x.mend(0), 1);
        x = Due.with(0, "aRb", "bRa", "cRab", "dRab");
        Due.alter(x, 0, 0, "aWb");
        Due.alter(x, 0, 1, "bWa");
        Due.alter(x, 0, 2, "cLab");
        Due.alter(x, 0, 3, "dWab");
        Due.due("a or b, c, d: the least", x.mend(0), 13);
        x = Due.with(0, "aRb", "cRd");
        Due.alter(x, 0, 0, "aWc");
        Due.alter(x, 0, 1, "cWa");
        Due.due("both are as good as one", x.mend(0), 1);
        x = Due.with(0, "aRb", "bWc", "cWb");
        Due.alter(x, 0, 0, "aKcb");
        Due.due("a change of KIND", x.mend(0), 1);
    }

    private static void byAll() {
        WordsTold x = Due.with(0, "aRb", "aRc");
        Due.alter(x, 0, 0, "aS");
        Due.alter(x, 0, 1, "aS");
        Due.due("one is enough", x.mend(0), 1);
        x.all(0, 0, true);
        Due.due("all must change", x.mend(0), 3);
    }
}
