/** Promises 16 to 20: fewest, lightest, sets, soonest, waits. */
public final class FoundationTest {
    private static final String[] REST = {"gS", "hS", "iS", "jS", "kS", "lS"};

    public static void main(String[] args) {
        empty();
        ring();
        fewWordsOrLittleHardness();
        askedFirst();
        byAll();
        order();
        refused();
        Due.end();
    }

    /** A new object, in whose book 0 the words g .. l are SHOWN, then these. */
    private static WordsTold withShown(String... texts) {
        WordsTold x = Due.with(0, REST);
        for (int i = 0; i < texts.length; i++) {
            Due.due("telling of " + texts[i], Due.tell(x, 0, texts[i]), REST.length + i);
        }
        return x;
    }

    private static void found(WordsTold x, String fewest, int sets, String must, String may) {
        Due.due("fewest", x.fewest(0), Due.bits(fewest));
        Due.due("sets", x.sets(0, 0), sets);
        Due.due("must", x.sets(0, 1), Due.bits(must));
        Due.due("may", x.sets(0, 2), Due.bits(may));
    }

    private static void empty() {
        WordsTold x = new WordsTold();
        found(x, "abcdefghijkl", 1, "abcdefghijkl", "abcdefghijkl");
        Due.due("lightest", x.lightest(0), 4095);
        x.word(0, 3, 0, 0);
        Due.due("what is not hard must come too", x.lightest(0), 4095);
        Due.due("soonest", x.soonest(0, 0), -9);
        Due.due("waits", x.waits(0), 0);
        x = withShown("aS", "bS", "cS", "dS", "eS", "fS");
        found(x, "", 1, "", "");
        Due.due("lightest", x.lightest(0), 0);
        Due.due("the other book", x.fewest(1), 4095);
    }

    private static void ring() {
        WordsTold x = withShown("aWb", "bWc", "cWa", "dWe", "eWd", "fRa");
        found(x, "adf", 6, "f", "abcdef");
        Due.due("lightest, as hard", x.lightest(0), Due.bits("adf"));
        x.word(0, 0, 0, 2);
        Due.due("lightest without a", x.lightest(0), Due.bits("bdf"));
        x.word(0, 1, 0, 2);
        Due.due("lightest without a, b", x.lightest(0), Due.bits("cdf"));
        x.word(0, 3, 0, 99);
        Due.due("lightest without d", x.lightest(0), Due.bits("cef"));
        x.word(0, 2, 0, 2);
        Due.due("of as hard ones the least", x.lightest(0), Due.bits("aef"));
        found(x, "adf", 6, "f", "abcdef");
    }

    private static void fewWordsOrLittleHardness() {
        WordsTold x = withShown("aLb", "aWcd", "bLa", "cWa", "dWa", "eS", "fS");
        found(x, "a", 2, "", "ab");
        x.word(0, 0, 0, 9);
        x.word(0, 1, 0, 9);
        Due.due("more words, less hard", x.lightest(0), Due.bits("cd"));
        x.word(0, 2, 0, 4);
        x.word(0, 3, 0, 5);
        Due.due("as hard, fewer words", x.lightest(0), Due.bits("a"));
        x.word(0, 3, 0, 4);
        Due.due("less hard by one", x.lightest(0), Due.bits("cd"));
        x.word(0, 2, 0, 0);
        x.word(0, 3, 0, 0);
        x.word(0, 1, 0, 0);
        Due.due("of no hardness, the fewest words", x.lightest(0), Due.bits("b"));
        x.word(0, 0, 0, 0);
        Due.due("of no hardness, the least", x.lightest(0), Due.bits("a"));
        found(x, "a", 2, "", "ab");
        x = withShown("fWab", "aWf", "bWf", "cS", "dS", "eS");
        x.word(0, 5, 0, 2);
        Due.due("as hard, fewer words, though not the least", x.lightest(0), Due.bits("f"));
        x.word(0, 5, 0, 3);
        Due.due("less hard, more words", x.lightest(0), Due.bits("ab"));
    }

    /** Each is asked first of a new object, and behind another book's. */
    private static void askedFirst() {
        Due.due("lightest", withShown("aWb", "bWa").lightest(0), Due.bits("acdef"));
        Due.due("sets", withShown("aWb", "bWa").sets(0, 0), 2);
        Due.due("must", withShown("aWb", "bWa").sets(0, 1), Due.bits("cdef"));
        Due.due("may", withShown("aWb", "bWa").sets(0, 2), Due.bits("abcdef"));
        Due.due("soonest", withShown("aWb", "bWa").soonest(0, 0), 1);
        WordsTold x = withShown("aWb", "bWa");
        Due.due("fewest of 1", x.fewest(1), 4095);
        Due.due("lightest of 0", x.lightest(0), Due.bits("acdef"));
        Due.due("lightest of 1", x.lightest(1), 4095);
        Due.due("sets of 0", x.sets(0, 0), 2);
        Due.due("sets of 1", x.sets(1, 0), 1);
        Due.due("may of 0", x.sets(0, 2), Due.bits("abcdef"));
    }

    private static void byAll() {
        WordsTold x = withShown("aLb", "aLc", "bS", "cLa", "dS", "eS", "fS");
        found(x, "", 1, "", "");
        x.all(0, 0, true);
        found(x, "a", 2, "", "ac");
        Due.tell(x, 0, "aRd");
        found(x, "a", 1, "a", "a");
    }

    private static void order() {
        WordsTold x = withShown("bWa", "cWa", "dWb", "eLc", "fPde");
        found(x, "a", 1, "a", "a");
        int[] met = {50, 3, 5, 9, 2, 99, 4, 4, 0, 1, 0, 3};
        for (int word = 0; word < 12; word++) {
            x.word(0, word, 1, met[word]);
        }
        int[] order = {2, 6, 7, 1, 3, 11, 4, 5, 9, 8, 10};
        int waits = 0;
        for (int i = 0; i < order.length; i++) {
            Due.due("soonest " + i, x.soonest(0, i), order[i]);
            waits += met[order[i]] * (i + 1);
        }
        Due.due("no such", x.soonest(0, 11), -9);
        Due.due("no such", x.soonest(0, 12), -9);
        Due.due("no such", x.soonest(0, -1), -9);
        Due.due("no such", x.soonest(0, Integer.MAX_VALUE), -9);
        Due.due("waits", x.waits(0), waits);
        Due.due("nothing waits there", x.waits(1), 0);
        x = withShown("aS", "bS", "cS", "dS", "eS", "fS");
        for (int word = 0; word < 12; word++) {
            x.word(0, word, 1, 99);
        }
        Due.due("the twelfth", x.soonest(0, 11), 11);
        Due.due("the most that may wait", x.waits(0), 99 * 78);
    }

    private static void refused() {
        WordsTold x = new WordsTold();
        for (int book = -1; book <= 2; book += 3) {
            Due.due("fewest", x.fewest(book), -1);
            Due.due("lightest", x.lightest(book), -1);
            Due.due("sets", x.sets(book, 3), -1);
            Due.due("soonest", x.soonest(book, 0), -1);
            Due.due("waits", x.waits(book), -1);
        }
        Due.due("sets", x.sets(0, 3), -2);
        Due.due("sets", x.sets(1, -1), -2);
        Due.due("NOBODY counted", x.count(11), 10);
        Due.due("OTHER counted", x.count(12), 2);
        Due.due("no such is not refused", x.soonest(0, -1), -9);
        Due.due("nothing more", x.count(11) + x.count(12) + x.count(13) + x.count(14) + x.count(16), 12);
    }
}
