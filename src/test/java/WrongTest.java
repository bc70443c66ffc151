/** Promises 23 and 24: spread, shows. */
public final class WrongTest {
    public static void main(String[] args) {
        leastNumber();
        roundsAhead();
        byAll();
        shows();
        refused();
        Due.end();
    }

    private static void spread(WordsTold x, String known, char word, String due) {
        Due.due("spread of " + word + " from " + known, x.spread(0, Due.bits(known), word - 'a'), Due.bits(due));
    }

    private static void leastNumber() {
        WordsTold x = Due.with(0, "cWa", "cWb", "dWc", "eRa", "fLab", "gS");
        spread(x, "a", 'a', "acdf");
        spread(x, "b", 'b', "bcdf");
        spread(x, "ab", 'a', "acdf");
        spread(x, "ab", 'b', "bf");
        spread(x, "abc", 'a', "af");
        spread(x, "abc", 'c', "cd");
        spread(x, "abcd", 'd', "d");
        spread(x, "eg", 'g', "g");
    }

    private static void roundsAhead() {
        WordsTold x = Due.with(0, "bWa", "cWb", "dLac", "dLb", "ePabc", "fPabc", "cRa");
        spread(x, "a", 'a', "abcdef");
        spread(x, "ac", 'c', "cdef");
        x = Due.with(0, "dLc", "dLb", "cLb", "eLcb", "fLdae");
        Due.due("d is learnt by its second telling", x.depth(0, Due.bits("b"), 3), 1);
        spread(x, "b", 'b', "bcdef");
        spread(x, "bc", 'c', "cdef");
        spread(x, "bc", 'b', "bef");
        x = Due.with(0, "cLba", "bLd", "dLa", "bWe", "eRa");
        spread(x, "a", 'a', "abcd");
        spread(x, "ad", 'd', "db");
        spread(x, "ad", 'a', "ac");
        spread(x, "ae", 'e', "be");
        x = Due.with(0, "aWb", "cWa", "aLd");
        spread(x, "b", 'b', "abc");
        spread(x, "bd", 'd', "d");
        x = Due.with(0, "eLbc", "bWd", "dWa", "fWeb");
        spread(x, "ac", 'a', "abdf");
        spread(x, "ac", 'c', "cef");
    }

    private static void byAll() {
        WordsTold x = Due.with(0, "cWa", "cWb", "dLc");
        x.all(0, 2, true);
        spread(x, "ab", 'b', "bcd");
        spread(x, "ab", 'a', "acd");
        spread(x, "a", 'a', "a");
        x = Due.with(0, "cLab", "cS", "bWd", "dWe");
        x.all(0, 2, true);
        spread(x, "ae", 'e', "bde");
        spread(x, "ae", 'a', "ac");
    }

    private static void shows() {
        WordsTold x = Due.with(0, "bWa", "bS", "cWb", "dWa", "aS", "eWc", "eS");
        Due.due("b was shown", x.shows(0, 1, 0), 0);
        Due.due("b itself", x.shows(0, 2, 1), 1);
        Due.due("d has none shown", x.shows(0, 8, 3), -9);
        x = Due.with(0, "cWa", "cS", "bWa", "dS", "dWc");
        Due.due("shown, though the other taught it", x.shows(0, 1, 0), 2);
        Due.due("the least alone", x.shows(0, 1 | 1 << 3, 0), 2);
        Due.due("itself alone", x.shows(0, 1 | 1 << 3, 3), 3);
        Due.due("nothing shown", x.shows(0, 2, 1), -9);
        Due.due("the other book", x.shows(1, 1, 0), -9);
        x = Due.with(1, "aS", "aWb");
        Due.due("number 0 is the SHOWN one", x.shows(1, 1, 0), 0);
        Due.due("learnt in round 1 by number 0", x.spread(1, 2, 1), 2);
        x = Due.with(0, "aWb", "aS");
        Due.due("a is wrong and has a SHOWN one", x.shows(0, 2, 1), 0);
    }

    private static void refused() {
        WordsTold x = new WordsTold();
        int[][] none = {{2, 1, 0}, {-1, 1, 0}, {0, 4096, 0}, {0, -1, 0}, {0, 1, 12}, {0, 1, -1}};
        for (int[] no : none) {
            Due.due("no such spread", x.spread(no[0], no[1], no[2]), -1);
            Due.due("no such shows", x.shows(no[0], no[1], no[2]), -1);
        }
        Due.due("not known", x.spread(0, 4094, 0), -3);
        Due.due("not known", x.shows(0, 4094, 0), -3);
        Due.due("NOBODY counted", x.count(11), 12);
        Due.due("STATE counted", x.count(13), 2);
    }
}
