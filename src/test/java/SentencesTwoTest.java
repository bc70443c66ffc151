import java.util.Arrays;
import java.util.function.Supplier;

/** Each sentence of Terms II and of promises 7 to 15. */
public final class SentencesTwoTest {
    /** a is known some other way, each other word by the one ahead of it. */
    private static final String[] CHAIN = {"bWa", "cWb", "dWc", "eWd", "fWe", "gWf", "hWg", "iWh", "jWi", "kWj", "lWk"};
    private static final String[] RING = {"aWl", "bWa", "cWb", "dWc", "eWd", "fWe", "gWf", "hWg", "iWh", "jWi", "kWj", "lWk"};

    public static void main(String[] args) {
        rounds();
        depths();
        judged();
        leading();
        depth();
        learnt();
        put();
        judge();
        neededToKnots();
        Sentences.end(Sentences.II, "Promise 7", "Promise 8", "Promise 9", "Promise 10", "Promise 11", "Promise 12",
            "Promise 13", "Promise 14", "Promise 15");
    }

    private static void depthsDue(WordsTold x, int known, int... depths) {
        for (int word = 0; word < depths.length; word++) {
            Due.due("depth of " + word + " from " + known, x.depth(0, known, word), depths[word]);
        }
    }

    private static void judgedDue(WordsTold x, int known, int due, int... row) {
        for (int i = 0; i < row.length; i++) {
            Due.due("put " + row[i], x.put(row[i]), i + 1);
        }
        Due.due("judge of " + Arrays.toString(row) + " from " + known, x.judge(0, known), due);
    }

    private static void rounds() {
        Sentences.holds(7, Sentences.II, "==== II. KNOWN WORDS (bits) are learnt in ROUND 0.", () -> {
            WordsTold x = Due.with(0, "aS", "bWa");
            depthsDue(x, 0, 1, 2, -9);
            depthsDue(x, 1, 0, 1, -9);
            depthsDue(x, 2, 1, 0, -9);
            depthsDue(x, 4095, 0, 0, 0, 0, 0, 0, 0, 0, 0, 0, 0, 0);
            Due.due("l alone", x.depth(0, 2048, 11), 0);
        });
        Sentences.holds(7, Sentences.II, "In ROUND n (1, 2, ..) all WORDS that have a TELLING", () -> {
            WordsTold x = Due.with(0, CHAIN);
            depthsDue(x, 1, 0, 1, 2, 3, 4, 5, 6, 7, 8, 9, 10, 11);
            x = Due.with(0, RING);
            depthsDue(x, 2048, 1, 2, 3, 4, 5, 6, 7, 8, 9, 10, 11, 0);
            Due.tell(x, 0, "aS");
            depthsDue(x, 0, 1, 2, 3, 4, 5, 6, 7, 8, 9, 10, 11, 12);
            x = Due.with(0, "lLa", "bLa", "cLa", "dLa");
            depthsDue(x, 1, 0, 1, 1, 1, -9);
            Due.due("l, too", x.depth(0, 1, 11), 1);
        });
        Sentences.holds(7, Sentences.II, "(if ALL: with each one, RINGS too;", () -> {
            WordsTold x = Due.with(0, "aLb", "aWc", "aS");
            x.all(0, 0, true);
            depthsDue(x, 0, -9);
            depthsDue(x, 2, -9);
            depthsDue(x, 4, -9);
            depthsDue(x, 6, 1);
            x = Due.with(0, "aS", "aRb", "lS");
            x.all(0, 0, true);
            depthsDue(x, 4094, -9);
            x.all(0, 0, false);
            depthsDue(x, 0, 1);
        });
        Sentences.holds(7, Sentences.II, "one at least)", () -> {
            WordsTold x = new WordsTold();
            x.all(0, 11, true);
            Due.due("by ALL of none", x.depth(0, 2047, 11), -9);
            Due.due("by ALL of none", x.learnt(0, 2047), 2047);
            Due.due("it is in each foundation", x.fewest(0), 4095);
            Due.tell(x, 0, "lLa");
            Due.due("by ALL of one", x.depth(0, 1, 11), 1);
        });
        Sentences.holds(7, Sentences.II, "that teaches by what was learnt in ROUNDS ahead are learnt.", () -> {
            WordsTold x = Due.with(0, "aS", "bLa", "cLab", "dWab", "ePabc");
            depthsDue(x, 0, 1, 2, 2, 3, 3);
            x = Due.with(0, "eWd", "dWc", "cWb", "bWa");
            depthsDue(x, 1, 0, 1, 2, 3, 4);
            x = Due.with(0, "bWa", "cWa", "cWb", "dKbc");
            depthsDue(x, 1, 0, 1, 1, 2);
        });
    }

    private static void depths() {
        Sentences.holds(7, Sentences.II, "DEPTH of a WORD: its ROUND;", () -> {
            WordsTold x = Due.with(0, "cWb", "cWd", "dWa", "bWe", "eWa");
            depthsDue(x, 1, 0, 2, 2, 1, 1);
            depthsDue(x, 9, 0, 2, 1, 0, 1);
            Due.due("the other book", x.depth(1, 1, 2), -9);
        });
        Sentences.holds(7, Sentences.II, "-9 it is never learnt.", () -> {
            WordsTold x = Due.with(0, "aWb", "bWa", "cRa", "dWae");
            depthsDue(x, 0, -9, -9, -9, -9, -9);
            depthsDue(x, 1, 0, 1, -9, -9, -9);
            Due.due("of no telling", x.depth(0, 2047, 11), -9);
        });
        Sentences.holds(8, Sentences.II, "LEARNT by a set: all WORDS that are (these, too).", () -> {
            WordsTold x = Due.with(0, CHAIN);
            for (int word = 0; word < 12; word++) {
                Due.due("from " + word, x.learnt(0, 1 << word), 4096 - (1 << word));
            }
            Due.due("from none", x.learnt(0, 0), 0);
            Due.due("from all", x.learnt(0, 4095), 4095);
            Due.tell(x, 0, "aS");
            Due.due("from none, twelve rounds", x.learnt(0, 0), 4095);
        });
    }

    private static void judged() {
        Sentences.holds(10, Sentences.II, "JUDGED: a row of WORDS (24 at most),", () -> {
            WordsTold x = new WordsTold();
            for (int i = 1; i <= 24; i++) {
                Due.due("put", x.put(0), i);
            }
            Due.due("a 25th", x.put(0), -6);
            Due.due("24", x.count(4), 24);
            Due.due("the first may not be", x.judge(0, 0), 0);
            Due.due("there is room again", x.put(0), 1);
            x = Due.with(0, CHAIN);
            for (int i = 1; i < 12; i++) {
                x.put(i);
            }
            for (int i = 12; i <= 24; i++) {
                Due.due("put", x.put(0), i);
            }
            Due.due("a word again, behind the eleven", x.judge(0, 1), 11);
        });
        Sentences.holds(10, Sentences.II, "one learnt behind the other, from what is KNOWN (told):", () -> {
            WordsTold x = Due.with(0, "bWa", "cWb", "dWac");
            judgedDue(x, 1, -9, 1, 2, 3);
            judgedDue(x, 0, 0, 1, 2, 3);
            judgedDue(x, 2, -9, 2);
            judgedDue(x, 4, 0, 3);
            judgedDue(x, 5, -9, 3, 1);
        });
        Sentences.holds(10, Sentences.II, "the place of the first that is learnt too soon,", () -> {
            WordsTold x = Due.with(0, "bWa", "cWb", "dWac");
            judgedDue(x, 1, 0, 2, 1, 3);
            judgedDue(x, 1, 1, 1, 3, 2);
            judgedDue(x, 1, 2, 1, 2, 4, 3);
            judgedDue(x, 0, 0, 2, 3);
            x = Due.with(0, "aS", "bS", "cS", "dS", "eS", "fS", "gS", "hS", "iS", "jS", "kS");
            judgedDue(x, 0, 11, 10, 9, 8, 7, 6, 5, 4, 3, 2, 1, 0, 11);
        });
        Sentences.holds(10, Sentences.II, "or again", () -> {
            WordsTold x = Due.with(0, "bWa", "cWb");
            judgedDue(x, 1, 1, 1, 1, 2);
            judgedDue(x, 1, 2, 1, 2, 1);
            judgedDue(x, 1, 2, 1, 2, 2);
        });
        Sentences.holds(10, Sentences.II, "(a KNOWN one, too),", () -> {
            WordsTold x = Due.with(0, "aS", "bWa");
            judgedDue(x, 1, 0, 0, 1);
            judgedDue(x, 1, 1, 1, 0);
            judgedDue(x, 0, -9, 0, 1);
            judgedDue(x, 4095, 0, 11);
        });
        Sentences.holds(10, Sentences.II, "or is none (-1 .. 99 may be told);", () -> {
            WordsTold x = Due.with(0, "aS", "lS");
            for (int none : new int[] {-1, 12, 13, 31, 32, 43, 44, 64, 99}) {
                judgedDue(x, 0, 0, none);
                judgedDue(x, 0, 2, 11, 0, none);
                judgedDue(x, 4095, 0, none);
            }
            judgedDue(x, 0, -9, 11, 0);
        });
        Sentences.holds(10, Sentences.II, "-9 all may be.", () -> {
            WordsTold x = Due.with(0, CHAIN);
            judgedDue(x, 1, -9, 1, 2, 3, 4, 5, 6, 7, 8, 9, 10, 11);
            judgedDue(x, 1, -9);
            judgedDue(x, 0, -9);
            judgedDue(x, 4095, -9);
        });
    }

    private static void leading() {
        Sentences.holds(11, Sentences.II, "NEEDED: WORDS in some TELLING (a RING, too) of a WORD (bits);", () -> {
            WordsTold x = Due.with(0, "aWl", "aRk", "aLlj", "bWi", "cS");
            Due.due("of a", x.needed(0, 0), Due.bits("jkl"));
            Due.due("of b", x.needed(0, 1), Due.bits("i"));
            Due.due("of c, that is SHOWN", x.needed(0, 2), 0);
            Due.due("of d, that is not told", x.needed(0, 3), 0);
        });
        Sentences.holds(12, Sentences.II, "IDLE: WORDS that no TELLING of another WORD has.", () -> {
            WordsTold x = Due.with(0, "aWl", "bRa", "cS");
            Due.due("not l, nor a of a RING", x.idle(0), 4095 - Due.bits("al"));
            Due.due("none told", x.idle(1), 4095);
            x = Due.with(0, RING);
            Due.due("all are had", x.idle(0), 0);
        });
        Sentences.holds(13, Sentences.II, "LEADS: WORDS to which one comes from a WORD by NEEDED ones, one step at least.", () -> {
            WordsTold x = Due.with(0, CHAIN);
            for (int word = 0; word < 12; word++) {
                Due.due("not to itself, but to all ahead", x.leads(0, word), (1 << word) - 1);
            }
            x = Due.with(0, RING);
            for (int word = 0; word < 12; word++) {
                Due.due("to itself by twelve steps", x.leads(0, word), 4095);
            }
            x = Due.with(0, "aRb", "bRa", "cLa", "dWe");
            Due.due("to itself by two steps", x.leads(0, 0), 3);
            Due.due("not to c", x.leads(0, 2), 3);
            Due.due("one step", x.leads(0, 3), 16);
            Due.due("no step", x.leads(0, 4), 0);
        });
        Sentences.holds(14, Sentences.II, "KNOT of a WORD: it, and all to which it LEADS and which also LEAD to it (bits).", () -> {
            WordsTold x = Due.with(0, "aWb", "bRa", "cWa", "dWc", "cWd", "lWk");
            String[] due = {"ab", "ab", "cd", "cd", "e", "f", "g", "h", "i", "j", "k", "l"};
            for (int word = 0; word < 12; word++) {
                Due.due("knot of " + word, x.knot(0, word), Due.bits(due[word]));
            }
            x = Due.with(0, RING);
            Due.due("all", x.knot(0, 11), 4095);
            x = Due.with(0, CHAIN);
            Due.due("it alone", x.knot(0, 11), 2048);
        });
        Sentences.holds(15, Sentences.II, "KNOTS: how many unlike ones of two WORDS or more there are.", () -> {
            Due.due("none of one word", Due.with(0, CHAIN).knots(0), 0);
            Due.due("one of twelve", Due.with(0, RING).knots(0), 1);
            WordsTold x = Due.with(0, "aWb", "bWa", "cWd", "dWc", "eWf", "fWe", "gWh", "hWg", "iWj", "jWi", "kWl", "lWk");
            Due.due("six of two", x.knots(0), 6);
            Due.tell(x, 0, "aWc");
            Due.due("one leads to another, not back", x.knots(0), 6);
            Due.tell(x, 0, "dRb");
            Due.due("and back", x.knots(0), 5);
        });
    }

    private static void depth() {
        Sentences.holds(7, "DEPTH.", () -> {
            WordsTold x = Due.with(0, CHAIN);
            Due.tell(x, 1, "lWa");
            Due.due("of book 0", x.depth(0, 1, 11), 11);
            Due.due("of book 1", x.depth(1, 1, 11), 1);
            Due.due("never in book 1", x.depth(1, 2, 11), -9);
        });
        Sentences.holds(7, "-1 any.", () -> {
            Supplier<WordsTold> made = () -> Due.with(0, CHAIN);
            for (int book : Sentences.NO_BOOKS) {
                Sentences.refused("book " + book, -1, made, x -> x.depth(book, 0, 0));
            }
            for (int set : Sentences.NO_SETS) {
                Sentences.refused("set " + set, -1, made, x -> x.depth(0, set, 0));
            }
            for (int word : Sentences.NO_WORDS) {
                Sentences.refused("word " + word, -1, made, x -> x.depth(1, 4095, word));
            }
            Due.due("the greatest set, the last word", made.get().depth(1, 4095, 11), 0);
        });
    }

    private static void learnt() {
        Sentences.holds(8, "LEARNT (bits).", () -> {
            WordsTold x = Due.with(1, "lWa", "kWl");
            Due.due("of book 1", x.learnt(1, 1), Due.bits("akl"));
            Due.due("of book 0", x.learnt(0, 1), 1);
        });
        Sentences.holds(8, "-1.", () -> {
            Supplier<WordsTold> made = () -> Due.with(0, CHAIN);
            for (int book : Sentences.NO_BOOKS) {
                Sentences.refused("book " + book, -1, made, x -> x.learnt(book, 0));
            }
            for (int set : Sentences.NO_SETS) {
                Sentences.refused("set " + set, -1, made, x -> x.learnt(0, set));
            }
            Due.due("the greatest set", made.get().learnt(1, 4095), 4095);
        });
    }

    private static WordsTold withRow(int many) {
        WordsTold x = Due.with(0, CHAIN);
        for (int i = 1; i <= many; i++) {
            Due.due("put", x.put(i), i);
        }
        return x;
    }

    private static void put() {
        Sentences.holds(9, "A WORD more of the row:", () -> {
            WordsTold x = Due.with(0, CHAIN);
            x.put(1);
            x.put(2);
            Due.due("b, c", x.judge(0, 1), -9);
            x.put(2);
            x.put(1);
            Due.due("c, b", x.judge(0, 1), 0);
            Due.due("-1", x.put(-1), 1);
            Due.due("99", x.put(99), 2);
        });
        Sentences.holds(9, "how many.", () -> {
            WordsTold x = new WordsTold();
            for (int i = 1; i <= 24; i++) {
                Due.due("put", x.put(i * 4), i);
                Due.due("count", x.count(4), i);
            }
        });
        Sentences.holds(9, "-4 below -1;", () -> {
            for (int v : new int[] {-2, -3, -100, Sentences.LEAST}) {
                Sentences.refused("put " + v, -4, () -> withRow(2), x -> x.put(v));
                Sentences.refused("put ahead of room " + v, -4, () -> withRow(24), x -> x.put(v));
            }
        });
        Sentences.holds(9, "-6 (99;", () -> {
            for (int v : new int[] {100, 101, 128, Sentences.GREATEST}) {
                Sentences.refused("put " + v, -6, () -> withRow(2), x -> x.put(v));
                Sentences.refused("put into a full one " + v, -6, () -> withRow(24), x -> x.put(v));
            }
        });
        Sentences.holds(9, "24, too).", () -> {
            Due.due("the 24th", withRow(23).put(0), 24);
            for (int v : new int[] {-1, 0, 11, 99}) {
                Sentences.refused("a 25th", -6, () -> withRow(24), x -> x.put(v));
            }
        });
    }

    private static void judge() {
        Sentences.holds(10, "The row, which has none then, is JUDGED.", () -> {
            Due.due("eleven words", withRow(11).judge(0, 1), -9);
            Due.due("twelve", withRow(12).judge(0, 1), 11);
            Due.due("in the other book", withRow(11).judge(1, 1), 0);
            Sentences.leaves("judged well", -9, () -> withRow(11), x -> x.judge(0, 1), () -> withRow(0));
            Sentences.leaves("judged ill", 0, () -> withRow(24), x -> x.judge(0, 0), () -> withRow(0));
            Sentences.leaves("none judged", -9, () -> withRow(0), x -> x.judge(0, 0), () -> withRow(0));
        });
        Sentences.holds(10, "-1 (it stays).", () -> {
            for (int book : Sentences.NO_BOOKS) {
                Sentences.refused("book " + book, -1, () -> withRow(2), x -> x.judge(book, 1));
            }
            for (int set : Sentences.NO_SETS) {
                Sentences.refused("set " + set, -1, () -> withRow(24), x -> x.judge(0, set));
            }
            WordsTold x = withRow(11);
            x.judge(2, 1);
            x.judge(0, 4096);
            Due.due("it stays", x.judge(0, 1), -9);
        });
    }

    private static void neededToKnots() {
        Supplier<WordsTold> made = () -> Due.with(0, RING);
        Sentences.holds(11, "NEEDED (bits).", () -> {
            Due.due("of book 0", made.get().needed(0, 0), 2048);
            Due.due("of book 1", made.get().needed(1, 0), 0);
        });
        Sentences.holds(11, "-1.", () -> {
            for (int book : Sentences.NO_BOOKS) {
                Sentences.refused("book " + book, -1, made, x -> x.needed(book, 0));
            }
            for (int word : Sentences.NO_WORDS) {
                Sentences.refused("word " + word, -1, made, x -> x.needed(0, word));
            }
        });
        Sentences.holds(12, "IDLE (bits).", () -> {
            Due.due("of book 0", made.get().idle(0), 0);
            Due.due("of book 1", made.get().idle(1), 4095);
        });
        Sentences.holds(12, "-1.", () -> {
            for (int book : Sentences.NO_BOOKS) {
                Sentences.refused("book " + book, -1, made, x -> x.idle(book));
            }
        });
        Sentences.holds(13, "LEADS (bits).", () -> {
            Due.due("of book 0", made.get().leads(0, 0), 4095);
            Due.due("of book 1", made.get().leads(1, 0), 0);
        });
        Sentences.holds(13, "-1.", () -> {
            for (int book : Sentences.NO_BOOKS) {
                Sentences.refused("book " + book, -1, made, x -> x.leads(book, 0));
            }
            for (int word : Sentences.NO_WORDS) {
                Sentences.refused("word " + word, -1, made, x -> x.leads(0, word));
            }
        });
        Sentences.holds(14, "KNOT (bits).", () -> {
            Due.due("of book 0", made.get().knot(0, 0), 4095);
            Due.due("of book 1", made.get().knot(1, 0), 1);
        });
        Sentences.holds(14, "-1.", () -> {
            for (int book : Sentences.NO_BOOKS) {
                Sentences.refused("book " + book, -1, made, x -> x.knot(book, 0));
            }
            for (int word : Sentences.NO_WORDS) {
                Sentences.refused("word " + word, -1, made, x -> x.knot(0, word));
            }
        });
        Sentences.holds(15, "KNOTS.", () -> {
            Due.due("of book 0", made.get().knots(0), 1);
            Due.due("of book 1", made.get().knots(1), 0);
        });
        Sentences.holds(15, "-1.", () -> {
            for (int book : Sentences.NO_BOOKS) {
                Sentences.refused("book " + book, -1, made, x -> x.knots(book));
            }
        });
    }
}
