import java.util.function.IntFunction;
import java.util.function.Supplier;
import java.util.function.ToIntBiFunction;

/** Each sentence of Terms III and of promises 16 to 26. */
public final class SentencesThreeTest {
    public static void main(String[] args) {
        foundations();
        soonestFirst();
        changes();
        wrongWords();
        otherBook();
        fewestToWaits();
        change();
        mend();
        spreadAndShows();
        carriesAndLacks();
        Sentences.end(Sentences.III, "Promise 16", "Promise 17", "Promise 18", "Promise 19", "Promise 20", "Promise 21",
            "Promise 22", "Promise 23", "Promise 24", "Promise 25", "Promise 26");
    }

    /** Tellings in this book, ahead of them the words from this one to l SHOWN. */
    private static void tell(WordsTold x, int book, char shown, String... texts) {
        for (char word = shown; word <= 'l'; word++) {
            Due.due(word + "S", Due.tell(x, book, word + "S"), word - shown);
        }
        for (int i = 0; i < texts.length; i++) {
            Due.due(texts[i], Due.tell(x, book, texts[i]), Math.max('l' + 1 - shown, 0) + i);
        }
    }

    /** A new object, in whose book 0 the words from this one to l are SHOWN, then these tellings. */
    private static WordsTold shownFrom(char shown, String... texts) {
        WordsTold x = new WordsTold();
        tell(x, 0, shown, texts);
        return x;
    }

    private static WordsTold allShown() {
        return shownFrom('a');
    }

    private static void hard(WordsTold x, int... hardness) {
        for (int word = 0; word < hardness.length; word++) {
            x.word(0, word, 0, hardness[word]);
        }
    }

    private static void met(WordsTold x, int... met) {
        for (int word = 0; word < met.length; word++) {
            x.word(0, word, 1, met[word]);
        }
    }

    private static void setsDue(WordsTold x, int sets, String must, String may) {
        Due.due("sets", x.sets(0, 0), sets);
        Due.due("must", x.sets(0, 1), Due.bits(must));
        Due.due("may", x.sets(0, 2), Due.bits(may));
    }

    private static void orderDue(WordsTold x, String order) {
        for (int i = 0; i < order.length(); i++) {
            Due.due("soonest " + i, x.soonest(0, i), order.charAt(i) - 'a');
        }
        Due.due("no more", x.soonest(0, order.length()), -9);
    }

    private static void foundations() {
        Sentences.holds(16, Sentences.III, "==== III. A FOUNDATION is a set from which all 12 WORDS are LEARNT.", () -> {
            WordsTold x = shownFrom('c', "bWa");
            Due.due("from a", x.learnt(0, 1), 4095);
            Due.due("not from b", x.learnt(0, 2), 4094);
            Due.due("a", x.fewest(0), 1);
            x = shownFrom('b', "aRl");
            Due.due("all but one are too few", x.fewest(0), 1);
            x = shownFrom('d', "aLb", "aLc", "bLa", "cLa");
            Due.due("a learnt by ONE", x.fewest(0), Due.bits("a"));
            x.word(0, 0, 0, 9);
            Due.due("b alone, by ONE", x.lightest(0), Due.bits("b"));
            x.all(0, 0, true);
            Due.due("b and c, by ALL", x.lightest(0), Due.bits("bc"));
            x.all(0, 2, true);
            x.all(0, 11, true);
            Due.due("b and c, by ALL", x.lightest(0), Due.bits("bc"));
            Due.tell(x, 0, "lRa");
            Due.due("and l, that has a RING", x.lightest(0), Due.bits("bcl"));
        });
        Sentences.holds(16, Sentences.III, "FEWEST: of FOUNDATIONS with the fewest WORDS the least as bits;", () -> {
            Due.due("all twelve", new WordsTold().fewest(0), 4095);
            Due.due("none", allShown().fewest(0), 0);
            Due.due("one, though two are less as bits", shownFrom('d', "aWc", "bWc", "cWab").fewest(0), Due.bits("c"));
            Due.due("of three the least", shownFrom('d', "aWb", "bWc", "cWa").fewest(0), Due.bits("a"));
            Due.due("the last alone", shownFrom('m', "aWl", "bWl", "cWl", "dWl", "eWl", "fWl", "gWl", "hWl", "iWl", "jWl",
                "kWl").fewest(0), 2048);
            Due.due("k or l", shownFrom('m', "aWl", "bWl", "cWl", "dWl", "eWl", "fWl", "gWl", "hWl", "iWl", "jWl",
                "kWl", "lWk").fewest(0), 1024);
        });
        Sentences.holds(17, Sentences.III, "LIGHTEST: that with the least HARDNESS together,", () -> {
            WordsTold x = shownFrom('d', "aWbc", "bWa", "cWa");
            hard(x, 3, 1, 1);
            Due.due("two, less hard", x.lightest(0), Due.bits("bc"));
            hard(x, 1, 1, 1);
            Due.due("one", x.lightest(0), Due.bits("a"));
            hard(x, 99, 49, 49);
            Due.due("98, not 99", x.lightest(0), Due.bits("bc"));
            hard(x, 97, 49, 49);
            Due.due("97, not 98", x.lightest(0), Due.bits("a"));
            x = new WordsTold();
            hard(x, 99, 99, 99, 99, 99, 99, 99, 99, 99, 99, 99, 99);
            Due.due("all must be", x.lightest(0), 4095);
            hard(x, 0, 0, 0, 0, 0, 0, 0, 0, 0, 0, 0, 0);
            Due.due("all must be, of no hardness too", x.lightest(0), 4095);
        });
        Sentences.holds(17, Sentences.III, "LIGHTEST: that with the least HARDNESS together, of several with fewer WORDS,", () -> {
            WordsTold x = shownFrom('d', "cWab", "aWc", "bWc");
            hard(x, 1, 1, 2);
            Due.due("one, though the two are less as bits", x.lightest(0), Due.bits("c"));
            hard(x, 49, 50, 99);
            Due.due("one of 99", x.lightest(0), Due.bits("c"));
            hard(x, 0, 0, 0);
            Due.due("one of no hardness", x.lightest(0), Due.bits("c"));
            x = allShown();
            hard(x, 0, 0, 0, 0, 0, 0, 0, 0, 0, 0, 0, 0);
            Due.due("none of no hardness", x.lightest(0), 0);
        });
        Sentences.holds(17, Sentences.III, "with fewer WORDS, of several the least.", () -> {
            WordsTold x = shownFrom('d', "aWb", "bWc", "cWa");
            Due.due("a, b, c are as hard", x.lightest(0), Due.bits("a"));
            hard(x, 2, 1, 1);
            Due.due("b, c are as hard", x.lightest(0), Due.bits("b"));
            hard(x, 2, 2, 1);
            Due.due("c", x.lightest(0), Due.bits("c"));
            hard(x, 0, 0, 0);
            Due.due("of no hardness", x.lightest(0), Due.bits("a"));
        });
        Sentences.holds(18, Sentences.III, "SETS: how many FOUNDATIONS have as few as FEWEST;", () -> {
            Due.due("one of none", allShown().sets(0, 0), 1);
            Due.due("one of all", new WordsTold().sets(0, 0), 1);
            Due.due("three of one, none of two counts", shownFrom('d', "aWb", "bWc", "cWa").sets(0, 0), 3);
            WordsTold x = shownFrom('m', "aWb", "bWa", "cWd", "dWc", "eWf", "fWe", "gWh", "hWg", "iWj", "jWi", "kWl", "lWk");
            Due.due("two to the sixth", x.sets(0, 0), 64);
            x = shownFrom('i', "aPbcdefgh", "bPacdefgh", "cPabdefgh", "dPabcefgh", "ePabcdfgh", "fPabcdegh", "gPabcdefh",
                "hPabcdefg");
            Due.due("four of eight", x.sets(0, 0), 70);
        });
        Sentences.holds(18, Sentences.III, "MUST: WORDS in all of these;", () -> {
            Due.due("of one, all it has", new WordsTold().sets(0, 1), 4095);
            Due.due("of one that has none", allShown().sets(0, 1), 0);
            Due.due("c alone", shownFrom('d', "aWb", "bWa", "cRa").sets(0, 1), Due.bits("c"));
            Due.due("none in both", shownFrom('d', "aWb", "bWa", "cWa").sets(0, 1), 0);
        });
        Sentences.holds(18, Sentences.III, "MAY: in some.", () -> {
            Due.due("of one, all it has", new WordsTold().sets(0, 2), 4095);
            Due.due("of one that has none", allShown().sets(0, 2), 0);
            Due.due("a, b, c", shownFrom('d', "aWb", "bWa", "cRa").sets(0, 2), Due.bits("abc"));
            Due.due("not those of greater ones", shownFrom('d', "aWb", "bWa", "cWa").sets(0, 2), Due.bits("ab"));
        });
    }

    private static void soonestFirst() {
        Sentences.holds(19, Sentences.III, "SOONEST: with FEWEST KNOWN the other WORDS one by one:", () -> {
            orderDue(allShown(), "abcdefghijkl");
            orderDue(new WordsTold(), "");
            WordsTold x = shownFrom('d', "aWb", "bWc", "cWa");
            met(x, 99, 0, 0);
            orderDue(x, "cbdefghijkl");
        });
        Sentences.holds(19, Sentences.III, "of those not learnt that could be now the one MET most,", () -> {
            WordsTold x = shownFrom('e', "aRb", "bWa", "cWb", "dWc");
            met(x, 0, 1, 99, 50, 2, 0, 0, 0, 0, 0, 0, 3);
            orderDue(x, "lebcdfghijk");
        });
        Sentences.holds(19, Sentences.III, "the one MET most, of several the least: the i-th (0 on).", () -> {
            WordsTold x = allShown();
            met(x, 0, 5, 0, 5, 99, 0, 98, 0, 99, 0, 5, 0);
            orderDue(x, "eigbdkacfhjl");
        });
        Sentences.holds(20, Sentences.III, "WAIT: the sum over these of MET times its place (from 1 on).", () -> {
            WordsTold x = allShown();
            Due.due("none met", x.waits(0), 0);
            met(x, 0, 0, 7);
            Due.due("the first has place 1", x.waits(0), 7);
            met(x, 99, 99, 99, 99, 99, 99, 99, 99, 99, 99, 99, 99);
            Due.due("the greatest", x.waits(0), 99 * 78);
            met(x, 1, 2, 3, 4, 5, 6, 7, 8, 9, 10, 11, 12);
            Due.due("12, 11, ..", x.waits(0), 364);
            Due.due("none to learn", x.waits(1), 0);
            x = shownFrom('d', "aWb", "bWa", "cRa");
            met(x, 50, 7, 60);
            Due.due("not of those that are known", x.waits(0), 7);
        });
    }

    /** Each KIND that a telling may become: whether b tells a then. */
    private static void mendsByKind() {
        String[] texts = {"aWb", "aWbc", "aPbde", "aPbcd", "aKbd", "aKbc", "aLbc", "aLcd", "aS", "aRbd"};
        int[] mends = {1, 0, 1, 1, 1, 0, 1, 1, 1, 0};
        for (int i = 0; i < texts.length; i++) {
            WordsTold x = shownFrom('d', "aRb", "bRa", "cWab");
            Due.due("c, by a and b", x.fewest(0), Due.bits("ab"));
            Due.alter(x, 0, 9, texts[i]);
            Due.due("mend by " + texts[i], x.mend(0), mends[i]);
        }
    }

    private static void changes() {
        Sentences.holds(21, Sentences.III, "CHANGES (4 at most, of both BOOKS together):", () -> {
            WordsTold x = Due.with(0, "aWb");
            Due.tell(x, 1, "aWb");
            for (int i = 0; i < 4; i++) {
                Due.due("change", Due.alter(x, i % 2, 0, "aS"), i);
            }
            Due.due("a fifth", Due.alter(x, 0, 0, "aS"), -6);
            Due.due("a fifth in book 1", x.change(1, 0), -6);
            Due.due("four", x.count(2), 4);
        });
        Sentences.holds(22, Sentences.III,
            "a TELLING may (in mind, by MEND) become another one of the same WORD (told as a TEXT likewise, for a TELLING's number).",
            () -> {
                WordsTold x = shownFrom('c', "aWb", "bWa");
                Due.due("aS", Due.alter(x, 0, 10, "aS"), 0);
                Due.due("mends", x.mend(0), 1);
                Due.due("in mind alone", x.tellingOf(0, 10, 1), 0);
                Due.due("in mind alone", x.fewest(0), 1);
                Due.due("in mind alone", x.learnt(0, 0), 4092);
                Due.due("of another word", Due.alter(x, 0, 10, "bS"), -3);
                Due.due("no text", Due.alter(x, 0, 11, "bSa"), -22);
                Due.due("no telling's number", Due.alter(x, 0, 12, "bS"), -1);
                Due.due("as many tellings", x.count(0), 12);
                x = shownFrom('d', "aKcb", "bRa", "cWab");
                Due.due("a, b", x.fewest(0), Due.bits("ab"));
                Due.due("the first is c, as it was", Due.alter(x, 0, 9, "aKcd"), 0);
                Due.due("no better", x.mend(0), 0);
                Due.due("the first is d", Due.alter(x, 0, 9, "aKdb"), 1);
                Due.due("better: b tells a", x.mend(0), 2);
                x = shownFrom('d', "aKbc", "bRa", "cWab");
                Due.alter(x, 0, 9, "aKcd");
                Due.due("the first is c, and it was b", x.mend(0), 0);
                mendsByKind();
            });
        Sentences.holds(22, Sentences.III, "MEND: of sets of CHANGES (none, too;", () -> {
            WordsTold x = shownFrom('c', "aWb", "bWa");
            Due.due("no change", x.mend(0), 0);
            Due.alter(x, 0, 10, "aRb");
            Due.due("one that makes it no better", x.mend(0), 0);
            Due.alter(x, 0, 2, "eRa");
            Due.alter(x, 0, 10, "aLb");
            Due.alter(x, 0, 11, "bWacd");
            Due.due("four that make it no better", x.mend(0), 0);
        });
        Sentences.holds(22, Sentences.III, "of one TELLING the greatest number counts)", () -> {
            WordsTold x = shownFrom('d', "aRb", "bRa", "cRa");
            Due.alter(x, 0, 9, "aRbc");
            Due.alter(x, 0, 9, "aS");
            Due.due("the greater one", x.mend(0), 2);
            x = shownFrom('d', "aRb", "bRa", "cRa");
            Due.alter(x, 0, 9, "aS");
            Due.alter(x, 0, 9, "aRbc");
            Due.due("the less one alone", x.mend(0), 1);
            Due.alter(x, 0, 10, "bS");
            Due.alter(x, 0, 11, "cS");
            Due.due("not with the greater one", x.mend(0), 13);
        });
        Sentences.holds(22, Sentences.III, "that after which FEWEST has the fewest WORDS,", () -> {
            WordsTold x = shownFrom('e', "aRb", "bRa", "cRa", "dRa");
            Due.alter(x, 0, 8, "aWb");
            Due.alter(x, 0, 9, "bS");
            Due.alter(x, 0, 10, "cLa");
            Due.alter(x, 0, 11, "dS");
            Due.due("all four", x.mend(0), 15);
            Due.due("in the other book none", x.mend(1), 0);
        });
        Sentences.holds(22, Sentences.III, "has the fewest WORDS, of several with fewer CHANGES,", () -> {
            WordsTold x = shownFrom('d', "aRb", "bRa", "cRa");
            Due.alter(x, 0, 9, "aWb");
            Due.alter(x, 0, 10, "bWa");
            Due.due("either one is as good as both", x.mend(0), 1);
            x = shownFrom('d', "aRb", "aRb", "bRa", "cWb");
            Due.alter(x, 0, 9, "aLd");
            Due.alter(x, 0, 11, "bWa");
            Due.alter(x, 0, 10, "aPd");
            Due.due("a and b", x.mend(0), 3);
        });
        Sentences.holds(22, Sentences.III, "with fewer CHANGES, of several the least as bits.", () -> {
            WordsTold x = shownFrom('d', "aRb", "bRa", "cRa");
            Due.alter(x, 0, 11, "cRb");
            Due.alter(x, 0, 10, "bS");
            Due.alter(x, 0, 9, "aWb");
            Due.alter(x, 0, 10, "bLc");
            Due.due("0110, of 1010 and 0110", x.mend(0), 6);
            x = shownFrom('d', "aRb", "bRa", "cRa");
            Due.alter(x, 0, 11, "cRb");
            Due.alter(x, 0, 11, "cRb");
            Due.alter(x, 0, 11, "cS");
            Due.alter(x, 0, 11, "cWd");
            Due.due("0100, of 1000 and 0100", x.mend(0), 4);
        });
    }

    private static void spreadDue(WordsTold x, String known, char word, String due) {
        Due.due("spread of " + word + " from " + known, x.spread(0, Due.bits(known), word - 'a'), Due.bits(due));
    }

    private static void wrongWords() {
        Sentences.holds(23, Sentences.III, "WRONG: one WORD of those KNOWN (a set told) is known wrongly:", () -> {
            WordsTold x = Due.with(0, "cWa", "dWb");
            spreadDue(x, "ab", 'a', "ac");
            spreadDue(x, "ab", 'b', "bd");
            spreadDue(x, "abc", 'a', "a");
            spreadDue(x, "abcdefghijkl", 'l', "l");
            Due.due("one that is not", x.spread(0, 3, 2), -3);
        });
        Sentences.holds(23, Sentences.III,
            "each WORD learnt is learnt by the TELLING of the least number that teaches in its ROUND", () -> {
                WordsTold x = Due.with(0, "cWa", "cWb");
                spreadDue(x, "ab", 'a', "ac");
                spreadDue(x, "ab", 'b', "b");
                spreadDue(x, "b", 'b', "bc");
                x = Due.with(0, "dWc", "dWb", "cWa");
                spreadDue(x, "ab", 'a', "ac");
                spreadDue(x, "ab", 'b', "bd");
                x = Due.with(0, "aS", "aWb");
                spreadDue(x, "b", 'b', "b");
                x = Due.with(0, "aWb", "aS");
                spreadDue(x, "b", 'b', "ab");
                x = Due.with(0, "aWc", "aS", "cWb");
                spreadDue(x, "b", 'b', "bc");
                x = Due.with(0, "dRa", "dWb", "dWa");
                spreadDue(x, "ab", 'a', "a");
                spreadDue(x, "ab", 'b', "bd");
            });
        Sentences.holds(23, Sentences.III, "(if ALL: by all);", () -> {
            WordsTold x = Due.with(0, "cWa", "cWb", "cS");
            x.all(0, 2, true);
            spreadDue(x, "ab", 'a', "ac");
            spreadDue(x, "ab", 'b', "bc");
            spreadDue(x, "a", 'a', "a");
            x = Due.with(0, "cS", "cWa");
            spreadDue(x, "a", 'a', "a");
            x.all(0, 2, true);
            spreadDue(x, "a", 'a', "ac");
        });
        Sentences.holds(23, Sentences.III, "it is wrong, if any WORD of that, learnt in ROUNDS ahead, is wrong.", () -> {
            WordsTold x = Due.with(0, "dLabc");
            spreadDue(x, "abc", 'b', "bd");
            spreadDue(x, "ab", 'b', "bd");
            x = Due.with(0, "bWa", "cLab", "dPabc", "eKab");
            spreadDue(x, "a", 'a', "abcde");
            x = Due.with(0, "cLab", "bWd");
            spreadDue(x, "ad", 'd', "bd");
            spreadDue(x, "ad", 'a', "ac");
            x = Due.with(0, "eWcd", "cWa", "dWb");
            spreadDue(x, "ab", 'b', "bde");
        });
        Sentences.holds(23, Sentences.III, "SPREAD: WORDS that are wrong (bits, itself too).", () -> {
            spreadDue(new WordsTold(), "a", 'a', "a");
            spreadDue(new WordsTold(), "al", 'l', "l");
            WordsTold x = Due.with(0, "lWk", "kWj", "jWi", "iWh", "hWg", "gWf", "fWe", "eWd", "dWc", "cWb", "bWa");
            spreadDue(x, "a", 'a', "abcdefghijkl");
            spreadDue(x, "ag", 'a', "abcdef");
            spreadDue(x, "ag", 'g', "ghijkl");
            Due.tell(x, 0, "aWl");
            spreadDue(x, "l", 'l', "abcdefghijkl");
        });
        Sentences.holds(24, Sentences.III,
            "SHOWS: the least WORD that is wrong (itself, too) and has a SHOWN TELLING (whichever taught it);", () -> {
                WordsTold x = Due.with(0, "cWa", "bWa", "cS", "bS", "aS", "lWa");
                Due.due("itself", x.shows(0, 1, 0), 0);
                Due.due("none less that is right", x.shows(0, 2, 1), 1);
                x = Due.with(0, "dWa", "cWa", "bWa", "dS", "cS");
                Due.due("c, of c and d", x.shows(0, 1, 0), 2);
                Due.due("d, when c is known", x.shows(0, 5, 0), 3);
                Due.due("c, known wrongly", x.shows(0, 5, 2), 2);
                x = Due.with(0, "lWa", "lS");
                Due.due("l", x.shows(0, 1, 0), 11);
                x = Due.with(0, "lS", "lWa");
                Due.due("l, known wrongly", x.shows(0, 2048, 11), 11);
                Due.due("the other book", x.shows(1, 1, 0), -9);
            });
        Sentences.holds(24, Sentences.III, "-9 none.", () -> {
            Due.due("none is told", new WordsTold().shows(0, 1, 0), -9);
            WordsTold x = Due.with(0, "aS", "bWc", "dS", "dWc");
            Due.due("those that are shown are right", x.shows(0, 4, 2), -9);
        });
    }

    private static void otherBook() {
        Sentences.holds(25, Sentences.III, "CARRIES: whether FEWEST of one BOOK is a FOUNDATION in the other.", () -> {
            WordsTold x = shownFrom('d', "aWb", "bWc", "cWa");
            tell(x, 1, 'd', "bWa", "cWa");
            Due.due("a is one in book 1", x.carries(0), 1);
            Due.due("a is one in book 0", x.carries(1), 1);
            x.all(1, 4, true);
            Due.tell(x, 1, "eRa");
            Due.due("e must be known there", x.carries(0), 0);
            Due.due("a, e are more than enough", x.carries(1), 1);
            x.all(0, 5, true);
            Due.tell(x, 0, "fRa");
            Due.due("f must be known here", x.carries(1), 0);
            x = allShown();
            Due.due("none is not enough for an empty book", x.carries(0), 0);
            Due.due("all are", x.carries(1), 1);
        });
        Sentences.holds(26, Sentences.III, "LACKS: the fewest WORDS that must come to it there (least as bits).", () -> {
            WordsTold x = shownFrom('c', "aRb", "bWa");
            tell(x, 1, 'e', "aWb", "bWacd", "cWd", "dWc");
            Due.due("fewest of book 0", x.fewest(0), Due.bits("a"));
            Due.due("c or d, and then b", x.lacks(0), Due.bits("c"));
            Due.due("fewest of book 1", x.fewest(1), Due.bits("ac"));
            Due.due("nothing", x.lacks(1), 0);
            x = shownFrom('c', "bRa", "aWb");
            tell(x, 1, 'e', "aWbcd", "bWa", "cWa", "dWa");
            Due.due("a, though c, d are two", x.lacks(0), Due.bits("a"));
            x = new WordsTold();
            tell(x, 1, 'b', "aRb");
            tell(x, 0, 'e', "aRb", "bRa", "cWd", "dWc");
            Due.due("of book 1: b, and c or d", x.lacks(1), Due.bits("bc"));
            Due.due("of book 0: nothing", x.lacks(0), 0);
            x = shownFrom('b', "aRb");
            tell(x, 1, 'e', "aWbc", "bWad", "cWad", "dWbc");
            Due.due("d, though b, c are the fewest there", x.lacks(0), Due.bits("d"));
            Due.due("b, c are", x.fewest(1), Due.bits("bc"));
            x = shownFrom('b', "aRb");
            tell(x, 1, 'd', "bWac", "cWb", "aRbc");
            Due.due("b or c: b", x.lacks(0), Due.bits("b"));
            x = allShown();
            Due.due("all twelve", x.lacks(0), 4095);
        });
    }

    /** Each book, and each other argument, when there is one, is looked at. */
    private static void noBooks(String call, Supplier<WordsTold> made, ToIntBiFunction<WordsTold, Integer> asked) {
        for (int book : Sentences.NO_BOOKS) {
            Sentences.refused(call + " of book " + book, -1, made, x -> asked.applyAsInt(x, book));
        }
    }

    private static void fewestToWaits() {
        Supplier<WordsTold> made = () -> shownFrom('d', "aWb", "bWa", "cWa");
        Sentences.holds(16, "FEWEST.", () -> {
            Due.due("of book 0", made.get().fewest(0), 1);
            Due.due("of book 1", made.get().fewest(1), 4095);
        });
        Sentences.holds(16, "-1.", () -> noBooks("fewest", made, (x, book) -> x.fewest(book)));
        Sentences.holds(17, "LIGHTEST.", () -> {
            Due.due("of book 0", made.get().lightest(0), 1);
            Due.due("of book 1", made.get().lightest(1), 4095);
        });
        Sentences.holds(17, "-1.", () -> noBooks("lightest", made, (x, book) -> x.lightest(book)));
        sets(made);
        soonest(made);
        Sentences.holds(20, "WAIT.", () -> {
            WordsTold x = made.get();
            met(x, 9, 3, 2, 1);
            Due.due("b, c, d", x.waits(0), 3 + 4 + 3);
            Due.due("of book 1", x.waits(1), 0);
        });
        Sentences.holds(20, "-1.", () -> noBooks("waits", made, (x, book) -> x.waits(book)));
    }

    private static void sets(Supplier<WordsTold> made) {
        Sentences.holds(18, "SETS (what 0),", () -> Due.due("a, b", made.get().sets(0, 0), 2));
        Sentences.holds(18, "MUST (1),", () -> {
            Due.due("of book 0", made.get().sets(0, 1), 0);
            Due.due("of book 1", made.get().sets(1, 1), 4095);
        });
        Sentences.holds(18, "MAY (2).", () -> Due.due("a, b", made.get().sets(0, 2), 3));
        Sentences.holds(18, "-1;", () -> {
            noBooks("sets", made, (x, book) -> x.sets(book, 0));
            noBooks("sets ahead of what", made, (x, book) -> x.sets(book, 3));
        });
        Sentences.holds(18, "-2.", () -> {
            for (int what : Sentences.NO_WHATS) {
                Sentences.refused("what " + what, -2, made, x -> x.sets(0, what));
            }
            Sentences.refused("what 3", -2, made, x -> x.sets(1, 3));
        });
    }

    private static void soonest(Supplier<WordsTold> made) {
        Sentences.holds(19, "The i-th of SOONEST;", () -> {
            Due.due("the first", made.get().soonest(0, 0), 1);
            Due.due("the last, of eleven", made.get().soonest(0, 10), 11);
            Due.due("the last, of twelve", allShown().soonest(0, 11), 11);
        });
        Sentences.holds(19, "-9 none such.", () -> {
            for (int i : new int[] {-1, 11, 12, 13, 32, Sentences.LEAST, Sentences.GREATEST}) {
                Sentences.leaves("soonest " + i, -9, made, x -> x.soonest(0, i), made);
            }
            Sentences.leaves("none to learn", -9, made, x -> x.soonest(1, 0), made);
            Sentences.leaves("the thirteenth", -9, () -> allShown(), x -> x.soonest(0, 12), () -> allShown());
        });
        Sentences.holds(19, "-1.", () -> {
            noBooks("soonest", made, (x, book) -> x.soonest(book, 0));
            noBooks("soonest of none such", made, (x, book) -> x.soonest(book, -1));
        });
    }

    /** Two tellings in book 0, one in book 1, as many changes, this on the tape. */
    private static WordsTold changed(int many, String tape) {
        WordsTold x = Due.with(0, "aWb", "bWa");
        Due.due("cRa", Due.tell(x, 1, "cRa"), 0);
        for (int i = 0; i < many; i++) {
            Due.due("change", Due.alter(x, i % 2, 0, i % 2 == 0 ? "aS" : "cWa"), i);
        }
        Due.type(x, tape);
        return x;
    }

    private static void change() {
        Sentences.holds(21, "THE TAPE becomes a CHANGE of a TELLING, and has none:", () -> {
            WordsTold x = changed(0, "bS");
            x.change(0, 1);
            Due.due("the tape", x.count(3), 0);
            Due.due("one", x.count(2), 1);
            Due.due("it mends", x.mend(0), 1);
            Due.due("an empty tape", x.change(0, 1), -20);
            x = changed(0, "aWbcdefghi");
            Due.due("ten bytes", x.change(0, 0), 0);
            Due.due("the tape", x.count(3), 0);
        });
        Sentences.holds(21, "its number;", () -> {
            for (int many = 0; many < 4; many++) {
                Due.due("change", changed(many, "bS").change(0, 1), many);
            }
        });
        Sentences.holds(21, "or its FAULT likewise", () -> {
            String[] texts = {"", "m", "a", "a1", "aW", "aSb", "aWa", "aWbcdefghb"};
            int[] faults = {-20, -20, -21, -21, -22, -22, -22, -29};
            for (int i = 0; i < texts.length; i++) {
                String text = texts[i];
                Sentences.leaves("fault of " + text, faults[i], () -> changed(2, text), x -> x.change(0, 0), () -> changed(2, ""));
                Sentences.leaves("fault of " + text, faults[i], () -> changed(0, text), x -> x.change(1, 0), () -> changed(0, ""));
            }
        });
        Sentences.holds(21, "(ahead of -3).", () -> {
            Sentences.leaves("a fault of another word", -22, () -> changed(1, "bSa"), x -> x.change(0, 0), () -> changed(1, ""));
            Sentences.leaves("a fault of another word", -21, () -> changed(1, "b"), x -> x.change(0, 0), () -> changed(1, ""));
        });
        Sentences.holds(21, "-1;", () -> {
            for (int many = 0; many <= 4; many += 4) {
                int changes = many;
                noBooks("change", () -> changed(changes, "aS"), (x, book) -> x.change(book, 0));
                for (int telling : new int[] {-1, 2, 3, 19, 20, 32, Sentences.LEAST, Sentences.GREATEST}) {
                    Sentences.refused("telling " + telling, -1, () -> changed(changes, "aS"), x -> x.change(0, telling));
                }
                Sentences.refused("telling 1 of book 1", -1, () -> changed(changes, "c"), x -> x.change(1, 1));
                Sentences.refused("with a fault", -1, () -> changed(changes, "m"), x -> x.change(0, 2));
            }
        });
        Sentences.holds(21, "-6 4 (ahead of reading", () -> {
            for (String text : new String[] {"aS", "bS", "m", "", "aWbcdefghb"}) {
                Sentences.refused("a fifth of " + text, -6, () -> changed(4, text), x -> x.change(0, 0));
            }
            Due.due("the fourth", changed(3, "aS").change(0, 0), 3);
        });
        Sentences.holds(21, "(ahead of reading THE TAPE, which stays by these two);", () -> {
            WordsTold x = changed(4, "lS");
            x.change(0, 2);
            Due.due("by -1", x.count(3), 2);
            x.change(0, 0);
            Due.due("by -6", x.count(3), 2);
            Due.due("lS", x.telling(0), 2);
        });
        Sentences.holds(21, "-3 of another WORD", () -> {
            Due.due("b, not a", changed(0, "bS").change(0, 0), -3);
            Due.due("a, not b", changed(0, "aS").change(0, 1), -3);
            Due.due("l, not c", changed(3, "lS").change(1, 0), -3);
            Due.due("c in book 1", changed(0, "cS").change(1, 0), 0);
        });
        Sentences.holds(21, "(THE TAPE has none then).", () ->
            Sentences.leaves("another word", -3, () -> changed(1, "bS"), x -> x.change(0, 0), () -> changed(1, "")));
    }

    private static void mend() {
        Sentences.holds(22, "MEND (bits by numbers;", () -> {
            String[] texts = {"aRb", "bRa", "cRa", "dRa"};
            IntFunction<WordsTold> better = bits -> {
                WordsTold x = shownFrom('e', texts);
                for (int i = 0; i < 4; i++) {
                    Due.due("change", Due.alter(x, 0, 8 + i, (bits >> i & 1) != 0 ? texts[i].charAt(0) + "S" : texts[i]), i);
                }
                return x;
            };
            for (int bits = 0; bits < 16; bits++) {
                Due.due("those that make a word SHOWN", better.apply(bits).mend(0), bits);
            }
        });
        Sentences.holds(22, "CHANGES of the other BOOK never).", () -> {
            WordsTold x = shownFrom('c', "aRb", "bRa");
            tell(x, 1, 'c', "aRb", "bRa");
            Due.alter(x, 1, 10, "aS");
            Due.alter(x, 0, 11, "bS");
            Due.alter(x, 1, 11, "bS");
            Due.due("of book 0", x.mend(0), 2);
            Due.due("of book 1", x.mend(1), 5);
            x = shownFrom('c', "aRb", "bRa");
            tell(x, 1, 'c', "aRb", "bRa");
            Due.alter(x, 1, 10, "aS");
            Due.due("none of its own", x.mend(0), 0);
        });
        Sentences.holds(22, "-1.", () -> noBooks("mend", () -> changed(4, "aS"), (x, book) -> x.mend(book)));
    }

    /** What spread and shows refuse alike. */
    private static void noSuch(boolean shows) {
        Supplier<WordsTold> made = () -> Due.with(0, "bWa", "bS");
        for (int book : Sentences.NO_BOOKS) {
            Sentences.refused("book " + book, -1, made, x -> shows ? x.shows(book, 1, 0) : x.spread(book, 1, 0));
        }
        for (int set : Sentences.NO_SETS) {
            Sentences.refused("set " + set, -1, made, x -> shows ? x.shows(0, set, 0) : x.spread(0, set, 0));
        }
        for (int word : Sentences.NO_WORDS) {
            Sentences.refused("word " + word, -1, made, x -> shows ? x.shows(0, 4095, word) : x.spread(0, 4095, word));
            Sentences.refused("no word, none known " + word, -1, made, x -> shows ? x.shows(0, 0, word) : x.spread(0, 0, word));
        }
    }

    private static void notKnown(boolean shows) {
        Supplier<WordsTold> made = () -> Due.with(0, "bWa", "bS");
        for (int word = 0; word < 12; word++) {
            int no = word;
            int others = 4095 - (1 << word);
            Sentences.refused("none known", -3, made, x -> shows ? x.shows(0, 0, no) : x.spread(0, 0, no));
            Sentences.refused("others known", -3, made, x -> shows ? x.shows(1, others, no) : x.spread(1, others, no));
        }
        Sentences.refused("learnt, not known", -3, made, x -> shows ? x.shows(0, 1, 1) : x.spread(0, 1, 1));
    }

    private static void spreadAndShows() {
        Sentences.holds(23, "SPREAD.", () -> {
            WordsTold x = Due.with(1, "lWa");
            Due.due("of book 1", x.spread(1, 1, 0), 2049);
            Due.due("of book 0", x.spread(0, 1, 0), 1);
            Due.due("of all", x.spread(1, 4095, 11), 2048);
        });
        Sentences.holds(23, "-1 any;", () -> noSuch(false));
        Sentences.holds(23, "-3 the WORD is not KNOWN.", () -> notKnown(false));
        Sentences.holds(24, "SHOWS;", () -> {
            WordsTold x = Due.with(1, "lWa", "lS");
            Due.due("of book 1", x.shows(1, 1, 0), 11);
            Due.due("of all", x.shows(1, 4095, 11), 11);
        });
        Sentences.holds(24, "-9.", () -> {
            Supplier<WordsTold> made = () -> Due.with(1, "lWa", "lS");
            Sentences.leaves("of book 0", -9, made, x -> x.shows(0, 1, 0), made);
            Sentences.leaves("of book 1", -9, made, x -> x.shows(1, 2, 1), made);
        });
        Sentences.holds(24, "-1 any;", () -> noSuch(true));
        Sentences.holds(24, "-3.", () -> notKnown(true));
    }

    private static void carriesAndLacks() {
        Supplier<WordsTold> made = () -> shownFrom('c', "bWa");
        Sentences.holds(25, "CARRIES (FEWEST of this one): 1, 0.", () -> {
            Due.due("of book 1, that is empty: all twelve", made.get().carries(1), 1);
            Due.due("of book 0: a", made.get().carries(0), 0);
            Due.due("all twelve carry both ways", new WordsTold().carries(0), 1);
        });
        Sentences.holds(25, "-1.", () -> noBooks("carries", made, (x, book) -> x.carries(book)));
        Sentences.holds(26, "LACKS (bits; 0: nothing).", () -> {
            Due.due("of book 1", made.get().lacks(1), 0);
            Due.due("of book 0", made.get().lacks(0), 4094);
            Due.due("of two empty ones", new WordsTold().lacks(0), 0);
        });
        Sentences.holds(26, "-1.", () -> noBooks("lacks", made, (x, book) -> x.lacks(book)));
    }
}
