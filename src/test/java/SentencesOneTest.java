import java.util.function.Supplier;

/** Each sentence of Terms I and of promises 1 to 6. */
public final class SentencesOneTest {
    private static final String KINDS = "WPKLSR";
    private static final String OTHERS = "bcdefghijkl";

    public static void main(String[] args) {
        books();
        tellings();
        texts();
        kinds();
        newObject();
        feed();
        telling();
        tellingOf();
        word();
        all();
        Sentences.end(Sentences.I, "Promise 1", "Promise 2", "Promise 3", "Promise 4", "Promise 5", "Promise 6");
    }

    /** The answer of a telling of this text in a new object. */
    private static int told(String text) {
        return Due.tell(new WordsTold(), 0, text);
    }

    private static WordsTold typed(String text) {
        WordsTold x = new WordsTold();
        Due.type(x, text);
        return x;
    }

    /** A new object with this many tellings in book 0, three of a word, and this text on the tape. */
    private static WordsTold full(int many, String tape) {
        WordsTold x = new WordsTold();
        for (int i = 0; i < many; i++) {
            Due.due("telling " + i, Due.tell(x, 0, (char) ('a' + i / 3) + "S"), i);
        }
        Due.type(x, tape);
        return x;
    }

    private static void books() {
        Sentences.holds(3, Sentences.I, "BOOKS 0, 1 have WORDS 0 .. 11 (letters a .. l)", () -> {
            WordsTold x = Due.with(0, "aS", "lWa");
            Due.due("word of aS", x.tellingOf(0, 0, 0), 0);
            Due.due("word of lWa", x.tellingOf(0, 1, 0), 11);
            Due.due("lS in book 1", Due.tell(x, 1, "lS"), 0);
            Due.due("the sign ahead of a", Due.tell(x, 0, "`S"), -20);
            Due.due("the sign behind l", Due.tell(x, 0, "mS"), -20);
            Due.due("word 0", x.needed(0, 0), 0);
            Due.due("word 11", x.needed(0, 11), 1);
            Due.due("word -1", x.needed(0, -1), -1);
            Due.due("word 12", x.needed(0, 12), -1);
            Due.due("book -1", x.needed(-1, 0), -1);
            Due.due("book 2", x.needed(2, 0), -1);
        });
        Sentences.holds(5, Sentences.I, "each with a HARDNESS and how often it is MET (0 .. 99 each;", () -> {
            WordsTold x = new WordsTold();
            for (int word = 0; word < 12; word++) {
                for (int i = 0; i < 4; i++) {
                    x.word(i / 2, word, i % 2, 99);
                    Due.due("99", x.word(i / 2, word, i % 2, 0), 99);
                    Due.due("0", x.word(i / 2, word, i % 2, 1), 0);
                }
            }
            Due.due("hardness 100", x.word(0, 0, 0, 100), -6);
            Due.due("met 100", x.word(0, 0, 1, 100), -6);
            Due.due("hardness -1", x.word(0, 0, 0, -1), -4);
            Due.due("met -1", x.word(0, 0, 1, -1), -4);
        });
        Sentences.holds(5, Sentences.I, "1 and 0 at first)", () -> {
            WordsTold x = new WordsTold();
            for (int word = 0; word < 12; word++) {
                for (int book = 0; book < 2; book++) {
                    Due.due("hardness at first", x.word(book, word, 0, 5), 1);
                    Due.due("met at first", x.word(book, word, 1, 5), 0);
                }
            }
        });
        Sentences.holds(6, Sentences.I, "and whether it is learnt by ONE of its TELLINGS (at first) or by ALL.", () -> {
            WordsTold x = Due.with(1, "aWb", "aWc");
            Due.due("by ONE at first", x.learnt(1, 2), 3);
            x.all(1, 0, true);
            Due.due("by ALL", x.learnt(1, 2), 2);
            Due.due("by ALL of both", x.learnt(1, 6), 7);
        });
    }

    private static void tellings() {
        Sentences.holds(3, Sentences.I, "TELLINGS have numbers from 0 on in their BOOK", () -> {
            WordsTold x = new WordsTold();
            Due.due("the first", Due.tell(x, 0, "aS"), 0);
            Due.due("the second", Due.tell(x, 0, "bS"), 1);
            Due.due("the first of the other", Due.tell(x, 1, "cS"), 0);
            Due.due("the third", Due.tell(x, 0, "cS"), 2);
            Due.due("number 2", x.tellingOf(0, 2, 0), 2);
            Due.due("number 0 of the other", x.tellingOf(1, 0, 0), 2);
            Due.due("no number 1 of the other", x.tellingOf(1, 1, 0), -1);
        });
        Sentences.holds(3, Sentences.I, "(20 at most;", () -> {
            WordsTold x = full(20, "lS");
            Due.due("the 21st", x.telling(0), -6);
            Due.due("20", x.count(0), 20);
            Due.due("number 19", x.tellingOf(0, 19, 0), 6);
            Due.due("number 20", x.tellingOf(0, 20, 0), -1);
            for (int i = 0; i < 20; i++) {
                Due.due("in the other book " + i, i == 0 ? x.telling(1) : Due.tell(x, 1, (char) ('a' + i / 2) + "S"), i);
            }
            Due.due("the 21st of the other", Due.tell(x, 1, "kS"), -6);
        });
        Sentences.holds(3, Sentences.I, "3 at most of a WORD)", () -> {
            WordsTold x = Due.with(0, "lS", "lS", "lWa");
            Due.due("a fourth", Due.tell(x, 0, "lWb"), -6);
            Due.due("of another word", Due.tell(x, 0, "aWl"), 3);
            Due.due("in the other book", Due.tell(x, 1, "lWb"), 0);
            Due.due("in the other book", Due.tell(x, 1, "lWb"), 1);
            Due.due("in the other book", Due.tell(x, 1, "lWb"), 2);
            Due.due("a fourth there", Due.tell(x, 1, "lWb"), -6);
        });
    }

    private static void texts() {
        Sentences.holds(2, Sentences.I, "each is read from a TEXT (10 bytes at most):", () -> {
            Due.due("10 bytes", told("aWbcdefghi"), 0);
            WordsTold x = typed("aWbcdefghi");
            Due.due("an 11th", x.feed(1, 'j'), -6);
            Due.due("as many as 10", x.count(3), 10);
            Due.due("the ten", x.telling(0), 0);
            Due.due("its words", x.tellingOf(0, 0, 2), Due.bits("bcdefghi"));
        });
        Sentences.holds(3, Sentences.I, "a letter of its WORD,", () -> {
            for (int sign = 0; sign < 256; sign++) {
                boolean is = sign >= 'a' && sign <= 'l';
                Due.due("sign " + sign, told((char) sign + "S"), is ? 0 : -20);
            }
        });
        Sentences.holds(3, Sentences.I, "a capital of its KIND,", () -> {
            for (int sign = 0; sign < 256; sign++) {
                boolean is = KINDS.indexOf(sign) >= 0 && sign != 'S';
                Due.due("sign " + sign, told("a" + (char) sign + "b"), is ? 0 : sign == 'S' ? -22 : -21);
            }
        });
        Sentences.holds(3, Sentences.I, "letters of other WORDS", () -> {
            for (int sign = 0; sign < 256; sign++) {
                boolean is = sign >= 'a' && sign <= 'l' && sign != 'd';
                Due.due("sign " + sign, told("dW" + (char) sign), is ? 0 : -22);
                boolean too = is && sign != 'a';
                Due.due("sign behind another " + sign, told("dWa" + (char) sign), too ? 0 : -23);
            }
        });
        Sentences.holds(3, Sentences.I, "(each once;", () -> {
            Due.due("at once again", told("aWbb"), -23);
            Due.due("later again", told("aWbcb"), -24);
            Due.due("the last again", told("aWbcdefghh"), -29);
            Due.due("the first again, last", told("aWbcdefghb"), -29);
            Due.due("l again", told("aRll"), -23);
        });
        Sentences.holds(3, Sentences.I, "S none,", () -> {
            Due.due("none", told("aS"), 0);
            Due.due("one", told("aSb"), -22);
            Due.due("eight", told("aSbcdefghi"), -22);
        });
        Sentences.holds(3, Sentences.I, "others 1 .. 8).", () -> {
            for (char kind : "WPKLR".toCharArray()) {
                Due.due(kind + " with none", told("a" + kind), -22);
                for (int words = 1; words <= 8; words++) {
                    Due.due(kind + " with " + words, told("a" + kind + OTHERS.substring(0, words)), 0);
                }
            }
        });
        Sentences.holds(3, Sentences.I, "FAULT: the place of the first byte that can not stand", () -> {
            Due.due("the first", told("m1mm"), -20);
            Due.due("the second", told("a1mm"), -21);
            Due.due("the third", told("aWmm"), -22);
            Due.due("the fourth", told("aWbmm"), -23);
            Due.due("the tenth", told("aWbcdefghm"), -29);
            Due.due("ahead of what lacks", told("W"), -20);
            Due.due("a number is no capital", told("a5"), -21);
        });
        Sentences.holds(3, Sentences.I, "(the end, if something lacks).", () -> {
            Due.due("all lacks", told(""), -20);
            Due.due("a kind lacks", told("a"), -21);
            Due.due("words lack", told("aW"), -22);
            Due.due("words lack", told("aP"), -22);
            Due.due("words lack", told("aK"), -22);
            Due.due("words lack", told("aL"), -22);
            Due.due("words lack", told("aR"), -22);
        });
    }

    private static boolean taught(char kind, String words, String known) {
        WordsTold x = Due.with(0, "a" + kind + words);
        int depth = x.depth(0, Due.bits(known), 0);
        Due.due("round 1 or never", depth == 1 || depth == -9 ? 0 : depth, 0);
        return depth == 1;
    }

    private static void taught(char kind, String words, String known, boolean due) {
        Due.due(kind + " by " + words + ", of which are learnt " + known, taught(kind, words, known) ? 1 : 0, due ? 1 : 0);
    }

    private static void kinds() {
        Sentences.holds(7, Sentences.I, "KINDS: W WHOLE: it teaches, when all its WORDS are learnt.", () -> {
            for (int words = 1; words <= 8; words++) {
                String of = OTHERS.substring(0, words);
                taught('W', of, of, true);
                taught('W', of, OTHERS, true);
                taught('W', of, of.substring(1), false);
                taught('W', of, of.substring(0, words - 1), false);
                taught('W', of, OTHERS.substring(words), false);
            }
        });
        Sentences.holds(7, Sentences.I, "P PART under WHOLE: when more than half of them are.", () -> {
            for (int words = 1; words <= 8; words++) {
                String of = OTHERS.substring(0, words);
                int half = words / 2;
                taught('P', of, OTHERS.substring(words) + of.substring(0, half), false);
                taught('P', of, of.substring(words - half), false);
                taught('P', of, of.substring(0, half + 1), true);
                taught('P', of, of.substring(words - half - 1), true);
                taught('P', of, of, true);
            }
        });
        Sentences.holds(7, Sentences.I, "K KIND under WHOLE: when the first is, and another one, if there is one.", () -> {
            taught('K', "l", "", false);
            taught('K', "l", "k", false);
            taught('K', "l", "l", true);
            taught('K', "lb", "l", false);
            taught('K', "lb", "b", false);
            taught('K', "lb", "lb", true);
            taught('K', "lb", "lk", false);
            taught('K', "ibcdefgh", "i", false);
            taught('K', "ibcdefgh", "bcdefgh", false);
            taught('K', "ibcdefgh", "ib", true);
            taught('K', "ibcdefgh", "ih", true);
            taught('K', "ibcdefgh", "il", false);
            taught('K', "bl", "l", false);
            taught('K', "bl", "b", false);
        });
        Sentences.holds(7, Sentences.I, "L LIKE under PART: when one of them is.", () -> {
            for (int words = 1; words <= 8; words++) {
                String of = OTHERS.substring(0, words);
                taught('L', of, "", false);
                taught('L', of, OTHERS.substring(words), false);
                taught('L', of, of.substring(0, 1), true);
                taught('L', of, of.substring(words - 1), true);
                taught('L', of, of, true);
            }
        });
        Sentences.holds(7, Sentences.I, "S SHOWN: at once.", () -> {
            taught('S', "", "", true);
            taught('S', "", "l", true);
        });
        Sentences.holds(7, Sentences.I, "R RING under LIKE: never.", () -> {
            for (int words = 1; words <= 8; words++) {
                taught('R', OTHERS.substring(0, words), OTHERS, false);
                taught('R', OTHERS.substring(0, words), "", false);
            }
        });
    }

    private static void newObject() {
        Sentences.holds(1, "Empty BOOKS.", () -> {
            WordsTold x = new WordsTold();
            for (int book = 0; book < 2; book++) {
                Due.due("no telling", x.count(book), 0);
                Due.due("no telling 0", x.tellingOf(book, 0, 0), -1);
                Due.due("nothing is learnt", x.learnt(book, 0), 0);
                Due.due("nothing more is learnt", x.learnt(book, 4094), 4094);
                Due.due("all must be known", x.fewest(book), 4095);
                Due.due("all are idle", x.idle(book), 4095);
                Due.due("no knots", x.knots(book), 0);
                Due.due("no change mends", x.mend(book), 0);
            }
            for (int what = 2; what <= 4; what++) {
                Due.due("count " + what, x.count(what), 0);
            }
            Due.due("no image", x.on(), -3);
        });
    }

    private static void feed() {
        Sentences.holds(2, "n (1 .. 8) bytes come,", () -> {
            for (int n = 1; n <= 8; n++) {
                WordsTold x = new WordsTold();
                Due.due("feed " + n, x.feed(n, 'a'), n);
                Due.due("on the tape", x.count(3), n);
            }
        });
        Sentences.holds(2, "the lowest first:", () -> {
            WordsTold x = new WordsTold();
            x.feed(2, 0x7777777777775361L);
            Due.due("aS, and no more", x.telling(0), 0);
            x.feed(8, 0x6766656463625762L);
            Due.due("bWbcdefg: b of b is at place 2", x.telling(0), -22);
            x.feed(8, 0x6766656463615762L);
            Due.due("bWacdefg", x.telling(0), 1);
            Due.due("its words", x.tellingOf(0, 1, 2), Due.bits("acdefg"));
            x.feed(8, 0xff66656463615762L);
            Due.due("the eighth is 255", x.telling(0), -27);
            x.feed(3, 0xffffffffff615763L);
            Due.due("what is above n does not come", x.telling(0), 2);
            x.feed(2, 0x5764);
            x.feed(8, 0x6866656463626180L);
            Due.due("the first of the later ones is 128", x.telling(0), -22);
            x.feed(8, Long.MIN_VALUE | 0x63615764L);
            Due.due("the fifth is 0", x.telling(0), -24);
        });
        Sentences.holds(2, "how many THE TAPE has.", () -> {
            WordsTold x = new WordsTold();
            Due.due("3", x.feed(3, 0), 3);
            Due.due("3 and 1", x.feed(1, 0), 4);
            Due.due("3 and 1 and 6", x.feed(6, 0), 10);
            Due.due("count", x.count(3), 10);
        });
        Sentences.holds(2, "-4;", () -> {
            for (int n : new int[] {0, -1, -8, Sentences.LEAST}) {
                Sentences.refused("feed " + n, -4, () -> typed("lS"), x -> x.feed(n, 'a'));
                Sentences.refused("full, feed " + n, -4, () -> typed("lWabcdefgh"), x -> x.feed(n, 'a'));
            }
        });
        Sentences.holds(2, "-6 (n;", () -> {
            for (int n : new int[] {9, 10, 16, 64, Sentences.GREATEST}) {
                Sentences.refused("feed " + n, -6, () -> typed(""), x -> x.feed(n, 'a'));
                Sentences.refused("feed " + n, -6, () -> typed("l"), x -> x.feed(n, 'a'));
            }
        });
        Sentences.holds(2, "above 10).", () -> {
            String text = "lWabcdefgh";
            for (int n = 1; n <= 8; n++) {
                int more = n;
                Due.due("up to 10", typed(text.substring(0, 10 - n)).feed(n, 0), 10);
                Sentences.refused("above 10 by one", -6, () -> typed(text.substring(0, 11 - more)), x -> x.feed(more, 0));
            }
            Sentences.refused("8 when full", -6, () -> typed(text), x -> x.feed(8, 0));
            Sentences.refused("the greatest n when full", -6, () -> typed(text), x -> x.feed(Sentences.GREATEST, 0));
        });
    }

    private static void telling() {
        Sentences.holds(3, "THE TAPE becomes a TELLING,", () -> {
            WordsTold x = Due.with(1, "lKkb");
            Due.due("word", x.tellingOf(1, 0, 0), 11);
            Due.due("kind", x.tellingOf(1, 0, 1), 2);
            Due.due("words", x.tellingOf(1, 0, 2), Due.bits("bk"));
            Due.due("first", x.tellingOf(1, 0, 3), 10);
            Due.due("one in book 1", x.count(1), 1);
            Due.due("none in book 0", x.count(0), 0);
        });
        Sentences.holds(3, "and has none:", () -> {
            WordsTold x = Due.with(0, "aWbcdefghi");
            Due.due("the tape", x.count(3), 0);
            Due.due("an empty one", x.telling(0), -20);
            Due.due("room for all", x.feed(8, 0), 8);
        });
        Sentences.holds(3, "its number;", () -> Due.due("twenty numbers", full(20, "").count(0), 20));
        Sentences.holds(3, "or, if it has a FAULT, -20 less its place", () -> {
            Due.due("place 0", told("m"), -20);
            Due.due("place 0 is the end, too", told(""), -20);
            Due.due("place 9", told("aWbcdefghg"), -29);
        });
        Sentences.holds(3, "(nothing is counted;", () -> {
            for (String text : new String[] {"", "m", "a", "a1", "aW", "aSb", "aWbb", "aWbcdefghg"}) {
                Supplier<WordsTold> made = () -> Due.with(0, "aWb", "bWa");
                int answer = Due.tell(made.get(), 0, text);
                Due.due("a fault of " + text, answer <= -20 ? 1 : 0, 1);
                Sentences.leaves(text, answer, made, x -> Due.tell(x, 0, text), made);
            }
        });
        Sentences.holds(3, "THE TAPE has none, too).", () -> {
            WordsTold x = typed("aWbcdefghg");
            Due.due("a fault", x.telling(0), -29);
            Due.due("the tape", x.count(3), 0);
            Due.due("room for all", x.feed(8, 0), 8);
        });
        Sentences.holds(3, "-1;", () -> {
            for (int book : Sentences.NO_BOOKS) {
                Sentences.refused("telling in " + book, -1, () -> typed("aWb"), x -> x.telling(book));
                Sentences.refused("telling in " + book, -1, () -> full(20, "aW"), x -> x.telling(book));
            }
        });
        Sentences.holds(3, "-6 (20 ahead of reading: THE TAPE stays;", () -> {
            for (String text : new String[] {"lS", "mS", "", "aS", "lWabcdefgh"}) {
                Sentences.refused("a 21st of " + text, -6, () -> full(20, text), x -> x.telling(0));
            }
            Due.due("the 20th", full(19, "lS").telling(0), 19);
            Due.due("a fault of the 20th", full(19, "mS").telling(0), -20);
        });
        Sentences.holds(3, "a fourth of its WORD behind it: THE TAPE has none then).", () -> {
            Supplier<WordsTold> made = () -> Due.with(0, "lS", "aWb", "lRc", "lPde", "aWc");
            Sentences.leaves("a fourth", -6, made, x -> Due.tell(x, 0, "lS"), made);
            Due.due("the third", Due.tell(made.get(), 0, "aS"), 5);
            Sentences.leaves("a fault of a fourth", -23, made, x -> Due.tell(x, 0, "lWaa"), made);
            Supplier<WordsTold> nearlyFull = () -> full(19, "");
            Sentences.leaves("a fourth as the 20th", -6, nearlyFull, x -> Due.tell(x, 0, "aS"), nearlyFull);
        });
    }

    private static void tellingOf() {
        Supplier<WordsTold> six = () -> Due.with(0, "lWa", "aPlb", "bKca", "cLkjihgfed", "dS", "eRa");
        Sentences.holds(4, "0 WORD,", () -> {
            Due.due("l", six.get().tellingOf(0, 0, 0), 11);
            Due.due("a", six.get().tellingOf(0, 1, 0), 0);
        });
        Sentences.holds(4, "1 KIND (0 W, 1 P, 2 K, 3 L, 4 S, 5 R),", () -> {
            for (int kind = 0; kind < 6; kind++) {
                Due.due("kind", six.get().tellingOf(0, kind, 1), kind);
            }
        });
        Sentences.holds(4, "2 WORDS (bits),", () -> {
            Due.due("a", six.get().tellingOf(0, 0, 2), 1);
            Due.due("b, l", six.get().tellingOf(0, 1, 2), 2050);
            Due.due("eight", six.get().tellingOf(0, 3, 2), Due.bits("defghijk"));
            Due.due("none", six.get().tellingOf(0, 4, 2), 0);
        });
        Sentences.holds(4, "3 the first", () -> {
            Due.due("a", six.get().tellingOf(0, 0, 3), 0);
            Due.due("l, not b", six.get().tellingOf(0, 1, 3), 11);
            Due.due("k of eight", six.get().tellingOf(0, 3, 3), 10);
            Due.due("a of a RING", six.get().tellingOf(0, 5, 3), 0);
        });
        Sentences.holds(4, "(-9).", () -> Due.due("SHOWN", six.get().tellingOf(0, 4, 3), -9));
        Sentences.holds(4, "-1;", () -> {
            for (int book : Sentences.NO_BOOKS) {
                Sentences.refused("book " + book, -1, six, x -> x.tellingOf(book, 0, 4));
            }
            for (int telling : new int[] {-1, 6, 7, 19, 20, 32, Sentences.LEAST, Sentences.GREATEST}) {
                Sentences.refused("telling " + telling, -1, six, x -> x.tellingOf(0, telling, 0));
                Sentences.refused("telling ahead of what " + telling, -1, six, x -> x.tellingOf(0, telling, 4));
            }
            Sentences.refused("none in book 1", -1, six, x -> x.tellingOf(1, 0, 0));
            Sentences.refused("telling 20 of a full one", -1, () -> full(20, ""), x -> x.tellingOf(0, 20, 0));
            Due.due("the last", six.get().tellingOf(0, 5, 1), 5);
        });
        Sentences.holds(4, "-2.", () -> {
            for (int what : Sentences.NO_WHATS) {
                Sentences.refused("what " + what, -2, six, x -> x.tellingOf(0, 0, what));
            }
            Sentences.refused("what 4", -2, six, x -> x.tellingOf(0, 5, 4));
        });
    }

    private static void word() {
        Supplier<WordsTold> two = () -> {
            WordsTold x = Due.with(0, "aWb", "bWa");
            x.word(0, 0, 0, 2);
            x.word(0, 0, 1, 3);
            return x;
        };
        Sentences.holds(5, "HARDNESS (what 0),", () -> {
            WordsTold x = Due.with(0, "aWb", "bWa");
            Due.due("as hard, the least", x.lightest(0), 4093);
            x.word(0, 0, 0, 2);
            Due.due("a is harder", x.lightest(0), 4094);
            Due.due("met stays", x.word(0, 0, 1, 0), 0);
        });
        Sentences.holds(5, "MET (1):", () -> {
            WordsTold x = Due.with(0, "aS", "bS");
            Due.due("as often, the least", x.soonest(0, 0), 0);
            x.word(0, 1, 1, 1);
            Due.due("b is met more", x.soonest(0, 0), 1);
            Due.due("hardness stays", x.word(0, 1, 0, 0), 1);
        });
        Sentences.holds(5, "what it was.", () -> {
            WordsTold x = new WordsTold();
            for (int what = 0; what < 2; what++) {
                Due.due("at first", x.word(1, 11, what, 99), 1 - what);
                Due.due("99", x.word(1, 11, what, 0), 99);
                Due.due("0", x.word(1, 11, what, 0), 0);
                Due.due("0 again", x.word(1, 11, what, 7), 0);
                Due.due("the other book", x.word(0, 11, what, 7), 1 - what);
                Due.due("another word", x.word(1, 10, what, 7), 1 - what);
            }
        });
        Sentences.holds(5, "-1;", () -> {
            for (int book : Sentences.NO_BOOKS) {
                Sentences.refused("book " + book, -1, two, x -> x.word(book, 0, 2, -1));
            }
            for (int word : Sentences.NO_WORDS) {
                Sentences.refused("word " + word, -1, two, x -> x.word(0, word, 0, 5));
                Sentences.refused("word ahead of what " + word, -1, two, x -> x.word(1, word, 2, 100));
            }
        });
        Sentences.holds(5, "-2;", () -> {
            for (int what : Sentences.NO_WHATS) {
                Sentences.refused("what " + what, -2, two, x -> x.word(0, 0, what, 5));
                Sentences.refused("what ahead of below " + what, -2, two, x -> x.word(0, 0, what, -1));
                Sentences.refused("what ahead of room " + what, -2, two, x -> x.word(0, 0, what, 100));
            }
            Sentences.refused("what 2", -2, two, x -> x.word(0, 11, 2, 5));
        });
        Sentences.holds(5, "-4;", () -> {
            for (int v : new int[] {-1, -9, -100, Sentences.LEAST}) {
                Sentences.refused("hardness " + v, -4, two, x -> x.word(0, 0, 0, v));
                Sentences.refused("met " + v, -4, two, x -> x.word(0, 0, 1, v));
            }
        });
        Sentences.holds(5, "-6.", () -> {
            for (int v : new int[] {100, 101, 256, Sentences.GREATEST}) {
                Sentences.refused("hardness " + v, -6, two, x -> x.word(0, 0, 0, v));
                Sentences.refused("met " + v, -6, two, x -> x.word(0, 0, 1, v));
            }
        });
    }

    private static void all() {
        Sentences.holds(6, "By ALL, or by ONE:", () -> {
            WordsTold x = Due.with(0, "lLa", "lLb", "kLa", "kLb");
            x.all(0, 11, true);
            Due.due("l by ALL, k by ONE", x.learnt(0, 1), Due.bits("ak"));
            x.all(0, 10, true);
            x.all(0, 11, false);
            Due.due("k by ALL, l by ONE", x.learnt(0, 1), Due.bits("al"));
        });
        Sentences.holds(6, "1 either way;", () -> {
            WordsTold x = new WordsTold();
            for (int word = 0; word < 12; word++) {
                Due.due("to ALL", x.all(1, word, true), 1);
                Due.due("to ONE", x.all(1, word, false), 1);
            }
        });
        Sentences.holds(6, "0 it was so.", () -> {
            WordsTold x = new WordsTold();
            for (int word = 0; word < 12; word++) {
                Due.due("ONE at first", x.all(0, word, false), 0);
                x.all(0, word, true);
                Due.due("ALL again", x.all(0, word, true), 0);
                Due.due("the other book", x.all(1, word, false), 0);
            }
        });
        Sentences.holds(6, "-1.", () -> {
            Supplier<WordsTold> made = () -> Due.with(0, "aLb", "aLc", "bLa", "bLc");
            for (int book : Sentences.NO_BOOKS) {
                Sentences.refused("book " + book, -1, made, x -> x.all(book, 0, true));
                Sentences.refused("book " + book, -1, made, x -> x.all(book, 0, false));
            }
            for (int word : Sentences.NO_WORDS) {
                Sentences.refused("word " + word, -1, made, x -> x.all(0, word, true));
                Sentences.refused("word " + word, -1, made, x -> x.all(1, word, false));
            }
        });
    }
}
