/** Promises 5 to 10: word, all, depth, learnt, put, judge. */
public final class LearningTest {
    public static void main(String[] args) {
        word();
        all();
        kinds();
        rounds();
        row();
        judge();
        Due.end();
    }

    private static void word() {
        WordsTold x = new WordsTold();
        Due.due("hardness", x.word(0, 11, 0, 99), 1);
        Due.due("hardness", x.word(0, 11, 0, 0), 99);
        Due.due("met", x.word(0, 11, 1, 98), 0);
        Due.due("met", x.word(0, 11, 1, 5), 98);
        Due.due("hardness is apart", x.word(0, 11, 0, 7), 0);
        Due.due("the other book", x.word(1, 11, 0, 2), 1);
        Due.due("the other word", x.word(0, 10, 0, 3), 1);
        Due.due("no word", x.word(0, 12, 2, -1), -1);
        Due.due("no word", x.word(0, -1, 0, 1), -1);
        Due.due("no book", x.word(2, 0, 0, 1), -1);
        Due.due("what ahead of below", x.word(0, 0, 2, -1), -2);
        Due.due("what", x.word(0, 0, -1, 100), -2);
        Due.due("below", x.word(0, 11, 1, -1), -4);
        Due.due("above", x.word(0, 11, 1, 100), -6);
        Due.due("nothing changed", x.word(0, 11, 1, 5), 5);
        Due.due("counted", x.count(11) * 1000 + x.count(12) * 100 + x.count(14) * 10 + x.count(16), 3211);
    }

    private static void all() {
        WordsTold x = Due.with(0, "aLb", "aLc");
        Due.due("by ONE", x.learnt(0, 2), 3);
        Due.due("to ONE", x.all(0, 0, false), 0);
        Due.due("to ALL", x.all(0, 0, true), 1);
        Due.due("to ALL again", x.all(0, 0, true), 0);
        Due.due("by ALL", x.learnt(0, 2), 2);
        Due.due("by ALL", x.learnt(0, 6), 7);
        Due.due("other book", x.all(1, 0, false), 0);
        Due.due("to ONE", x.all(0, 0, false), 1);
        Due.due("by ONE", x.learnt(0, 2), 3);
        Due.due("no word 12", x.all(0, 12, true), -1);
        Due.due("no word -1", x.all(0, -1, true), -1);
        Due.due("no book", x.all(2, 0, true), -1);
        Due.due("no book", x.all(-1, 0, true), -1);
        Due.due("NOBODY counted", x.count(11), 4);
        x.all(0, 0, true);
        Due.tell(x, 0, "aRd");
        Due.due("a RING never teaches, so ALL never", x.learnt(0, 4095 - 1), 4095 - 1);
        Due.due("by ALL of none", x.all(0, 5, true), 1);
        Due.due("by ALL of none: never", x.learnt(0, 0), 0);
        Due.due("by ALL, a SHOWN one", Due.tell(x, 0, "fS"), 3);
        Due.due("one that is SHOWN", x.learnt(0, 0), 32);
    }

    private static void kinds() {
        WordsTold x = Due.with(0, "aWbc", "dPefgh", "iKjkl");
        taught(x, 0, "b", false);
        taught(x, 0, "bc", true);
        taught(x, 3, "ef", false);
        taught(x, 3, "egh", true);
        taught(x, 8, "j", false);
        taught(x, 8, "kl", false);
        taught(x, 8, "jl", true);
        taught(x, 8, "jkl", true);
        x = Due.with(0, "aPbcd", "eKf", "gLhij", "kRl", "bPc", "lWd");
        taught(x, 0, "b", false);
        taught(x, 0, "bd", true);
        taught(x, 4, "", false);
        taught(x, 4, "f", true);
        taught(x, 6, "", false);
        taught(x, 6, "j", true);
        taught(x, 10, "l", false);
        taught(x, 1, "c", true);
        taught(x, 11, "d", true);
        taught(x, 11, "", false);
        x = Due.with(0, "aKcb", "aS", "bPcd");
        taught(x, 0, "", true);
        taught(x, 1, "c", false);
        x = Due.with(0, "aKcb");
        taught(x, 0, "b", false);
        taught(x, 0, "c", false);
        taught(x, 0, "bc", true);
    }

    private static void taught(WordsTold x, int word, String known, boolean is) {
        Due.due("word " + word + " from " + known, x.depth(0, Due.bits(known), word), is ? 1 : -9);
    }

    private static void rounds() {
        WordsTold x = Due.with(1, "bWa", "cWb", "dWc", "eWd", "fWe", "gWf", "hWg", "iWh", "jWi", "kWj", "lWk");
        for (int word = 0; word < 12; word++) {
            Due.due("depth of " + word, x.depth(1, 1, word), word);
            Due.due("other book", x.depth(0, 1, word), word == 0 ? 0 : -9);
        }
        Due.due("learnt from a", x.learnt(1, 1), 4095);
        Due.due("learnt from f", x.learnt(1, 32), 4095 - 31);
        Due.due("depth of f", x.depth(1, 32, 5), 0);
        Due.due("depth of g", x.depth(1, 32, 6), 1);
        Due.due("depth of a", x.depth(1, 32, 0), -9);
        Due.due("depth of l from k too", x.depth(1, 1 | 1 << 10, 11), 1);
        x = Due.with(0, "aS", "bWa", "cWb", "dWc", "eWd", "fWe", "gWf", "hWg", "iWh", "jWi", "kWj", "lWk");
        Due.due("twelve rounds", x.depth(0, 0, 11), 12);
        Due.due("all in twelve rounds", x.learnt(0, 0), 4095);
        x = Due.with(0, "cLab", "bS", "dWbc", "cWb");
        Due.due("round 1", x.depth(0, 0, 1), 1);
        Due.due("rounds ahead alone", x.depth(0, 0, 2), 2);
        Due.due("round 3", x.depth(0, 0, 3), 3);
        Due.due("learnt", x.learnt(0, 0), 14);
        int[][] none = {{2, 0, 0}, {-1, 0, 0}, {0, -1, 0}, {0, 4096, 0}, {0, 0, -1}, {0, 0, 12}};
        for (int[] no : none) {
            Due.due("no such depth", x.depth(no[0], no[1], no[2]), -1);
        }
        Due.due("no book", x.learnt(2, 0), -1);
        Due.due("no set", x.learnt(0, 4096), -1);
        Due.due("no set", x.learnt(0, -1), -1);
        Due.due("NOBODY counted", x.count(11), 9);
    }

    private static void row() {
        WordsTold x = new WordsTold();
        Due.due("below", x.put(-2), -4);
        Due.due("above", x.put(100), -6);
        for (int i = 1; i <= 24; i++) {
            Due.due("put", x.put(i % 2 == 0 ? -1 : 99), i);
        }
        Due.due("a twenty-fifth", x.put(0), -6);
        Due.due("below ahead of room", x.put(-2), -4);
        Due.due("the row", x.count(4), 24);
        Due.due("counted", x.count(14) * 10 + x.count(16), 22);
        Due.due("no book", x.judge(2, 0), -1);
        Due.due("no set", x.judge(0, 4096), -1);
        Due.due("no set", x.judge(0, -1), -1);
        Due.due("the row stays", x.count(4), 24);
        Due.due("counted", x.count(11), 3);
        Due.due("99 is no word", x.judge(0, 0), 0);
        Due.due("the row has none", x.count(4), 0);
    }

    private static void judge() {
        WordsTold x = Due.with(0, "bWa", "cWb", "dPac", "eS");
        judged(x, 1, -9);
        judged(x, 1, -9, 1, 2, 3, 4);
        judged(x, 1, -9, 4, 1, 2, 3);
        judged(x, 1, 0, 2, 1);
        judged(x, 1, 2, 1, 2, 1, 3);
        judged(x, 1, 1, 1, 0, 2);
        judged(x, 1, 3, 1, 2, 3, 3);
        judged(x, 1, 1, 4, 3, 1);
        judged(x, 1, 1, 4, -1);
        judged(x, 1, 1, 4, 12);
        judged(x, 1, 2, 4, 1, 99);
        judged(x, 0, 1, 4, 1);
        judged(x, 16, 0, 4);
        judged(x, 4, 0, 3);
        judged(x, 5, -9, 3, 1);
        x.put(4);
        Due.due("the other book", x.judge(1, 0), 0);
        x.all(0, 3, true);
        Due.tell(x, 0, "dWb");
        judged(x, 5, 0, 3, 1);
        judged(x, 5, -9, 1, 3);
    }

    private static void judged(WordsTold x, int known, int due, int... row) {
        for (int i = 0; i < row.length; i++) {
            Due.due("put", x.put(row[i]), i + 1);
        }
        Due.due("judge of " + java.util.Arrays.toString(row) + " from " + known, x.judge(0, known), due);
        Due.due("the row has none", x.count(4), 0);
    }
}
