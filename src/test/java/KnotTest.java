/** Promises 11 to 15: needed, idle, leads, knot, knots. */
public final class KnotTest {
    public static void main(String[] args) {
        asked();
        chain();
        refused();
        Due.end();
    }

    private static void asked() {
        WordsTold x = Due.with(0, "aWb", "aRc", "bLa", "dPef", "eWd", "gS", "hRi", "iRh", "jKa", "aS");
        String[] needed = {"bc", "a", "", "ef", "d", "", "", "i", "h", "a", "", ""};
        String[] leads = {"abc", "abc", "", "def", "def", "", "", "hi", "hi", "abc", "", ""};
        String[] knots = {"ab", "ab", "c", "de", "de", "f", "g", "hi", "hi", "j", "k", "l"};
        for (int word = 0; word < 12; word++) {
            Due.due("needed " + word, x.needed(0, word), Due.bits(needed[word]));
            Due.due("leads " + word, x.leads(0, word), Due.bits(leads[word]));
            Due.due("knot " + word, x.knot(0, word), Due.bits(knots[word]));
            Due.due("needed in the other book", x.needed(1, word), 0);
            Due.due("leads in the other book", x.leads(1, word), 0);
            Due.due("knot in the other book", x.knot(1, word), 1 << word);
        }
        Due.due("idle", x.idle(0), Due.bits("gjkl"));
        Due.due("idle in the other book", x.idle(1), 4095);
        Due.due("knots", x.knots(0), 3);
        Due.due("knots in the other book", x.knots(1), 0);
    }

    private static void chain() {
        WordsTold x = Due.with(1, "lWk", "kWj", "jWi", "iWh", "hWg", "gWf", "fWe", "eWd", "dWc", "cWb", "bWa");
        for (int word = 0; word < 12; word++) {
            Due.due("leads " + word, x.leads(1, word), (1 << word) - 1);
        }
        Due.due("no knots", x.knots(1), 0);
        Due.due("idle", x.idle(1), 1 << 11);
        Due.tell(x, 1, "aRl");
        for (int word = 0; word < 12; word++) {
            Due.due("leads to all", x.leads(1, word), 4095);
            Due.due("one knot of all", x.knot(1, word), 4095);
        }
        Due.due("one knot", x.knots(1), 1);
        Due.due("none idle", x.idle(1), 0);
        x = Due.with(1, "aWl", "bWa", "cWb", "dWc", "eWd", "fWe", "gWf", "hWg", "iWh", "jWi", "kWj", "lWk");
        Due.due("round the other way", x.leads(1, 0), 4095);
        Due.due("one knot", x.knots(1), 1);
    }

    private static void refused() {
        WordsTold x = new WordsTold();
        for (int book = -1; book <= 2; book++) {
            for (int word = -1; word <= 12; word += 13) {
                Due.due("needed", x.needed(book, word), -1);
                Due.due("leads", x.leads(book, word), -1);
                Due.due("knot", x.knot(book, word), -1);
            }
        }
        Due.due("needed", x.needed(2, 0), -1);
        Due.due("leads", x.leads(2, 0), -1);
        Due.due("knot", x.knot(2, 0), -1);
        Due.due("idle", x.idle(2), -1);
        Due.due("idle", x.idle(-1), -1);
        Due.due("knots", x.knots(2), -1);
        Due.due("knots", x.knots(-1), -1);
        Due.due("NOBODY counted", x.count(11), 31);
    }
}
