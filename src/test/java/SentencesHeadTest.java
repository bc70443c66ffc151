/** Each sentence of What it is: the document's first line, clause by clause, with one pair of books. */
public final class SentencesHeadTest {
    private static final int WORD_MET_MOST = 50;

    public static void main(String[] args) {
        told();
        learnt();
        mustBeKnown();
        wrongAndOther();
        lastCall();
        Sentences.end(Sentences.HEAD);
    }

    private static void holds(int promise, String sentence, Runnable test) {
        Sentences.holds(promise, Sentences.HEAD, sentence, test);
    }

    /** In book 0, a to d tell one another, f to l have no telling; book 1 has a, shown, alone. */
    private static WordsTold made() {
        WordsTold x = Due.with(0, "bWa", "cPabd", "dKca", "aLcd", "eS", "eWf");
        Due.due("aS of book 1", Due.tell(x, 1, "aS"), 0);
        return x;
    }

    private static final int UNTOLD = Due.bits("fghijkl");

    private static void told() {
        holds(3, "Words told by words:", () -> {
            WordsTold x = made();
            Due.due("the word of cPabd", x.tellingOf(0, 1, 0), 2);
            Due.due("its words", x.tellingOf(0, 1, 2), Due.bits("abd"));
            Due.due("all that tell a", x.needed(0, 0), Due.bits("cd"));
        });
        holds(3, "two books whose words are told by words,", () -> {
            WordsTold x = made();
            Due.due("book 0", x.count(0), 6);
            Due.due("book 1", x.count(1), 1);
            Due.due("a of book 1", x.learnt(1, 0), Due.bits("a"));
            Due.due("a of book 0", x.learnt(0, 0), Due.bits("e"));
            Due.due("no third", x.learnt(2, 0), -1);
        });
        holds(7, "tellings by kinds that teach when enough of their words are learnt;", () -> {
            WordsTold x = Due.with(0, "eWabc", "fPabc", "gKabc", "hLabc", "iS", "jRabc");
            Due.due("none", x.learnt(0, 0), Due.bits("i"));
            Due.due("b", x.learnt(0, Due.bits("b")), Due.bits("bhi"));
            Due.due("b, c", x.learnt(0, Due.bits("bc")), Due.bits("bcfhi"));
            Due.due("a, c", x.learnt(0, Due.bits("ac")), Due.bits("acfghi"));
            Due.due("all", x.learnt(0, Due.bits("abc")), Due.bits("abcefghi"));
        });
    }

    private static void learnt() {
        holds(8, "what can be learnt from what is known,", () -> {
            Due.due("from a", made().learnt(0, Due.bits("a")), Due.bits("abcde"));
            Due.due("from b", made().learnt(0, Due.bits("b")), Due.bits("be"));
            Due.due("from c", made().learnt(0, Due.bits("c")), Due.bits("abcde"));
        });
        holds(7, "round by round,", () -> {
            WordsTold x = made();
            int[] rounds = {0, 1, 2, 3, 1, -9};
            for (int word = 0; word < rounds.length; word++) {
                Due.due("round of " + word, x.depth(0, Due.bits("a"), word), rounds[word]);
            }
        });
        holds(10, "orders judged,", () -> {
            WordsTold x = made();
            for (int word = 1; word <= 4; word++) {
                x.put(word);
            }
            Due.due("b, c, d, e from a", x.judge(0, Due.bits("a")), -9);
            x.put(4);
            x.put(2);
            Due.due("e, c from a", x.judge(0, Due.bits("a")), 1);
        });
        holds(14, "words that lead to one another,", () -> {
            WordsTold x = made();
            Due.due("leads of e", x.leads(0, 4), Due.bits("f"));
            Due.due("knot of b", x.knot(0, 1), Due.bits("abcd"));
            Due.due("knot of e", x.knot(0, 4), Due.bits("e"));
            Due.due("knots", x.knots(0), 1);
        });
        holds(7, "how deep each lies,", () -> {
            WordsTold x = made();
            int[] rounds = {1, 2, 0, 2, 1};
            for (int word = 0; word < rounds.length; word++) {
                Due.due("depth of " + word, x.depth(0, Due.bits("c"), word), rounds[word]);
            }
        });
    }

    private static void mustBeKnown() {
        holds(17, "the fewest and the least hard words that must be known some other way,", () -> {
            WordsTold x = made();
            int[] hardness = {5, 1, 4, 2};
            for (int word = 0; word < hardness.length; word++) {
                x.word(0, word, 0, hardness[word]);
            }
            Due.due("fewest", x.fewest(0), UNTOLD | Due.bits("a"));
            Due.due("lightest", x.lightest(0), UNTOLD | Due.bits("d"));
        });
        holds(18, "all such sets,", () -> Due.due("by a, c or d", made().sets(0, 0), 3));
        holds(18, "those in all of them,", () -> {
            Due.due("in all", made().sets(0, 1), UNTOLD);
            Due.due("in some", made().sets(0, 2), UNTOLD | Due.bits("acd"));
        });
        holds(20, "the order that has most met words soonest,", () -> {
            WordsTold x = made();
            x.word(0, 1, 1, 1);
            x.word(0, 3, 1, WORD_MET_MOST);
            x.word(0, 4, 1, 3);
            int[] order = {4, 1, 2, 3, -9};
            for (int i = 0; i < order.length; i++) {
                Due.due("soonest " + i, x.soonest(0, i), order[i]);
            }
            Due.due("waits", x.waits(0), 3 * 1 + 1 * 2 + 0 * 3 + WORD_MET_MOST * 4);
        });
    }

    private static void wrongAndOther() {
        holds(22, "tellings changed so that less must be known,", () -> {
            WordsTold x = made();
            Due.due("eRf for eS", Due.alter(x, 0, 4, "eRf"), 0);
            Due.due("aS for aLcd", Due.alter(x, 0, 3, "aS"), 1);
            Due.due("mend", x.mend(0), 2);
            Due.due("of book 1", x.mend(1), 0);
        });
        holds(23, "what is learnt wrongly by one that is known wrongly,", () -> {
            WordsTold x = made();
            Due.due("a", x.spread(0, Due.bits("a"), 0), Due.bits("abcd"));
            Due.due("f, for e is shown, too", x.spread(0, Due.bits("af"), 5), Due.bits("f"));
            Due.due("none that is shown", x.shows(0, Due.bits("a"), 0), -9);
            Due.due("shown", x.shows(0, Due.bits("ae"), 4), 4);
        });
        holds(26, "one book's foundation in the other,", () -> {
            WordsTold x = made();
            Due.due("fewest of 1", x.fewest(1), Due.bits("bcdefghijkl"));
            Due.due("carries 1", x.carries(1), 1);
            Due.due("lacks 1", x.lacks(1), 0);
            Due.due("carries 0", x.carries(0), 0);
            Due.due("lacks 0", x.lacks(0), Due.bits("bcde"));
        });
        holds(28, "an image. ==== I.", () -> {
            WordsTold x = made();
            Due.due("image", x.image(), 7);
            Due.due("fS", Due.tell(x, 0, "fS"), 6);
            Due.due("eight", x.count(0) + x.count(1), 8);
            Due.due("on", x.on(), 7);
            Due.due("seven again", x.count(0) + x.count(1), 7);
        });
    }

    private static void lastCall() {
        holds(29, "An object is used for at most 512 calls after it has been made;", () -> {
            WordsTold x = new WordsTold();
            for (int call = 1; call < 512; call++) {
                Due.due("call " + call, x.telling(-1), -1);
            }
            Due.due("call 512", x.count(11), 511);
            x = made();
            for (int call = 15; call < 512; call++) {
                Due.due("fewest", x.fewest(0), UNTOLD | Due.bits("a"));
            }
            Due.due("call 512 of another object", x.count(0), 6);
        });
        holds(29, "what later calls answer is free.", () -> {
            WordsTold x = made();
            for (int call = 0; call < 2048; call++) {
                x.tellingOf(call % 3, call % 7, call % 5);
                x.put(call % 12);
            }
            Due.due("another object is as new", made().fewest(0), UNTOLD | Due.bits("a"));
        });
    }
}
