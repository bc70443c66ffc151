/** Promises 1 to 4: a new object, feed, telling, tellingOf. */
public final class TapeTest {
    public static void main(String[] args) {
        newObject();
        feed();
        faults();
        rooms();
        tellingOf();
        Due.end();
    }

    private static void newObject() {
        WordsTold x = new WordsTold();
        for (int what = 0; what <= 4; what++) {
            Due.due("new count " + what, x.count(what), 0);
        }
        for (int what = 11; what <= 16; what++) {
            Due.due("new count " + what, x.count(what), 0);
        }
        for (int book = 0; book < 2; book++) {
            for (int word = 0; word < 12; word++) {
                Due.due("hardness at first", x.word(book, word, 0, 1), 1);
                Due.due("met at first", x.word(book, word, 1, 0), 0);
                Due.due("by ONE at first", x.all(book, word, false), 0);
            }
            Due.due("nothing is learnt", x.learnt(book, 0), 0);
        }
        Due.due("no image", x.on(), -3);
    }

    private static void feed() {
        WordsTold x = new WordsTold();
        Due.due("feed 0", x.feed(0, 7), -4);
        Due.due("feed least int", x.feed(Integer.MIN_VALUE, 7), -4);
        Due.due("feed 9", x.feed(9, 7), -6);
        Due.due("feed greatest int", x.feed(Integer.MAX_VALUE, 7), -6);
        Due.due("no bytes came", x.count(3), 0);
        Due.due("feed 1", x.feed(1, 'a' | 'X' << 8), 1);
        Due.due("feed 2", x.feed(2, 'W' | 'b' << 8 | 'c' << 16), 3);
        Due.due("feed 7", x.feed(7, 0x6968676665646362L), 10);
        Due.due("feed above 10", x.feed(1, 'l'), -6);
        Due.due("the tape stays", x.count(3), 10);
        Due.due("feed 0 when full", x.feed(0, 0), -4);
        Due.due("b came twice", x.telling(0), -23);
        Due.due("the tape has none", x.count(3), 0);
        Due.due("feed 8", x.feed(8, -1L), 8);
        Due.due("feed 3 above 10", x.feed(3, 0), -6);
        Due.due("feed 2 to 10", x.feed(2, 0), 10);
        Due.due("BELOW counted", x.count(14), 3);
        Due.due("ROOM counted", x.count(16), 4);
        WordsTold y = new WordsTold();
        y.feed(8, 'l' | 'P' << 8 | (long) 'a' << 16 | (long) 'b' << 24 | (long) 'c' << 32
            | (long) 'd' << 40 | (long) 'e' << 48 | (long) 'f' << 56);
        Due.due("eight bytes, lowest first", y.telling(1), 0);
        Due.due("words", y.tellingOf(1, 0, 2), Due.bits("abcdef"));
        Due.due("first", y.tellingOf(1, 0, 3), 0);
    }

    private static void faults() {
        WordsTold x = new WordsTold();
        String[] texts = {"", "a", "m", "mWa", "AWb", "`Wb", "aT", "aTb", "aWa", "aW", "aP", "aK", "aL", "aR",
            "aSb", "aSa", "aSS", "aWbb", "aWbcb", "aWbm", "aWB", "aw", "awb", "aWbcdefghi", "aWbcdefghb",
            "aWbcdefgha", "a\u00e1b", "\u00e1Wb", "aW\u00e2", "lWk", "lWl", "bRa", "bRac ", "a\u0000", "\u0000"};
        int[] answers = {-20, -21, -20, -20, -20, -20, -21, -21, -22, -22, -22, -22, -22, -22,
            -22, -22, -22, -23, -24, -23, -22, -21, -21, 0, -29,
            -29, -21, -20, -22, 1, -22, 2, -24, -21, -20};
        for (int i = 0; i < texts.length; i++) {
            Due.due("telling " + texts[i], Due.tell(x, 0, texts[i]), answers[i]);
            Due.due("the tape has none behind " + texts[i], x.count(3), 0);
        }
        Due.due("telling", Due.tell(x, 0, "cS"), 3);
        Due.due("nothing is left of the one ahead", Due.tell(x, 0, "c"), -21);
        Due.due("telling", Due.tell(x, 0, "cWab"), 4);
        Due.due("nothing is left of the one ahead", Due.tell(x, 0, "cW"), -22);
        Due.due("telling", Due.tell(x, 0, "cWb"), 5);
        Due.due("its words alone", x.tellingOf(0, 5, 2), 2);
        for (int what = 11; what <= 16; what++) {
            Due.due("a fault is not counted " + what, x.count(what), 0);
        }
        Due.due("tellings", x.count(0), 6);
        Due.due("the other book has none", x.count(1), 0);
    }

    private static void rooms() {
        WordsTold x = new WordsTold();
        Due.type(x, "aS");
        Due.due("no book 2", x.telling(2), -1);
        Due.due("no book -1", x.telling(-1), -1);
        Due.due("the tape stays", x.count(3), 2);
        Due.due("aS", x.telling(1), 0);
        Due.due("same again", Due.tell(x, 1, "aS"), 1);
        Due.due("third", Due.tell(x, 1, "aRb"), 2);
        Due.due("fourth of a", Due.tell(x, 1, "aLb"), -6);
        Due.due("the tape has none", x.count(3), 0);
        Due.due("a fault is ahead of the fourth", Due.tell(x, 1, "aLa"), -22);
        Due.due("three in the other book", Due.tell(x, 0, "aLb"), 0);
        Due.due("three", x.count(1), 3);
        for (int i = 3; i < 20; i++) {
            Due.due("telling " + i, Due.tell(x, 1, (char) ('a' + i / 3) + "S"), i);
        }
        Due.type(x, "q");
        Due.due("a twenty-first", x.telling(1), -6);
        Due.due("the tape stays by 20", x.count(3), 1);
        Due.due("read in the other book", x.telling(0), -20);
        Due.due("ROOM counted", x.count(16), 2);
        Due.due("NOBODY counted", x.count(11), 2);
        Due.due("twenty", x.count(1), 20);
        Due.due("one", x.count(0), 1);
    }

    private static void tellingOf() {
        WordsTold x = Due.with(0, "lWka", "aPcb", "bKf", "cLa", "dS", "eRhgf");
        int[][] parts = {{11, 0, Due.bits("ak"), 10}, {0, 1, Due.bits("bc"), 2}, {1, 2, Due.bits("f"), 5},
            {2, 3, 1, 0}, {3, 4, 0, -9}, {4, 5, Due.bits("fgh"), 7}};
        for (int telling = 0; telling < parts.length; telling++) {
            for (int what = 0; what < 4; what++) {
                Due.due("tellingOf " + telling + " " + what, x.tellingOf(0, telling, what), parts[telling][what]);
            }
        }
        Due.due("no such what", x.tellingOf(0, 0, 4), -2);
        Due.due("no such what", x.tellingOf(0, 0, -1), -2);
        Due.due("no telling 6", x.tellingOf(0, 6, 0), -1);
        Due.due("no telling -1", x.tellingOf(0, -1, 9), -1);
        Due.due("none in book 1", x.tellingOf(1, 0, 0), -1);
        Due.due("no book 2", x.tellingOf(2, 0, 0), -1);
        Due.due("no book -1", x.tellingOf(-1, 0, 0), -1);
        Due.due("NOBODY counted", x.count(11), 5);
        Due.due("OTHER counted", x.count(12), 2);
    }
}
