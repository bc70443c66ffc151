import java.util.function.Supplier;
import java.util.function.ToIntFunction;

/** Each sentence of THE IMAGE and the REFUSALS in the Terms, and of promises 27 to 29. */
public final class SentencesImageTest {
    public static void main(String[] args) {
        image();
        refusals();
        imageTaken();
        on();
        count();
        Sentences.end(Sentences.IMAGE, "Promise 27", "Promise 28", "Promise 29");
    }

    /** Something of all that an object holds. */
    private static WordsTold filled() {
        WordsTold x = Due.with(0, "aWb", "bWa", "cRa");
        Due.due("lRab", Due.tell(x, 1, "lRab"), 0);
        Due.due("a change", Due.alter(x, 0, 2, "cS"), 0);
        Due.due("a change of book 1", Due.alter(x, 1, 0, "lS"), 1);
        x.word(0, 1, 0, 7);
        x.word(0, 2, 1, 8);
        x.word(1, 3, 0, 9);
        x.word(1, 4, 1, 10);
        x.all(0, 0, true);
        x.all(1, 11, true);
        return x;
    }

    private static WordsTold withTapeAndRow(WordsTold x, String tape, int... row) {
        Due.type(x, tape);
        for (int v : row) {
            x.put(v);
        }
        return x;
    }

    /** All that THE IMAGE holds changes; the refusals stay. */
    private static void change(WordsTold x) {
        Due.due("dS", Due.tell(x, 0, "dS"), 3);
        Due.due("bLc", Due.tell(x, 1, "bLc"), 1);
        Due.due("a change", Due.alter(x, 0, 0, "aS"), 2);
        Due.due("a fourth change", Due.alter(x, 1, 1, "bRa"), 3);
        for (int word = 0; word < 12; word++) {
            for (int i = 0; i < 4; i++) {
                x.word(i / 2, word, i % 2, 20 + word);
            }
            x.all(0, word, word % 2 == 1);
            x.all(1, word, word % 2 == 0);
        }
    }

    private static void image() {
        Sentences.holds(28, Sentences.IMAGE, "THE IMAGE: both BOOKS, CHANGES;", () -> {
            Supplier<WordsTold> made = () -> {
                WordsTold x = filled();
                x.image();
                return x;
            };
            Supplier<WordsTold> changed = () -> {
                WordsTold x = made.get();
                change(x);
                return x;
            };
            Due.due("four changes", changed.get().count(2), 4);
            Sentences.leaves("on", 4, changed, x -> x.on(), made);
            Due.due("two changes", made.get().count(2), 2);
        });
        Sentences.holds(28, Sentences.IMAGE, "ON from it (again, too) these are as then,", () -> {
            WordsTold x = filled();
            x.image();
            for (int again = 0; again < 3; again++) {
                change(x);
                Due.due("changed", x.count(0) * 100 + x.count(1) * 10 + x.count(2), 424);
                Due.due("on", x.on(), 4);
                Due.due("as then", x.count(0) * 100 + x.count(1) * 10 + x.count(2), 312);
                Due.due("hardness", x.word(0, 1, 0, 7), 7);
                Due.due("met", x.word(0, 2, 1, 8), 8);
                Due.due("hardness of book 1", x.word(1, 3, 0, 9), 9);
                Due.due("met of book 1", x.word(1, 4, 1, 10), 10);
                Due.due("by ALL", x.all(0, 0, true), 0);
                Due.due("by ALL of book 1", x.all(1, 11, true), 0);
                Due.due("by ONE", x.all(0, 1, false), 0);
                Due.due("by ONE of book 1", x.all(1, 0, false), 0);
                Due.due("mend", x.mend(0), 1);
                Due.due("mend of book 1", x.mend(1), 2);
                Due.due("on once more", x.on(), 4);
            }
        });
        Sentences.holds(28, Sentences.IMAGE, "THE TAPE and the row as they are.", () -> {
            Supplier<WordsTold> less = () -> withTapeAndRow(imaged(withTapeAndRow(filled(), "eSxxxxxxxx", 1, 2, 3)), "", 4);
            Sentences.leaves("on, with more of the row", 4, less, x -> x.on(), less);
            WordsTold x = withTapeAndRow(filled(), "eWabcd", 1, 2, 3);
            x.image();
            x.telling(0);
            x.judge(0, 0);
            Due.type(x, "fS");
            x.put(4);
            x.on();
            Due.due("the tape", x.count(3), 2);
            Due.due("the row", x.count(4), 1);
            Due.due("fS", x.telling(0), 3);
            Due.due("it is f", x.tellingOf(0, 3, 0), 5);
            x = filled();
            x.image();
            x = withTapeAndRow(x, "eWabcdfghi", 1, 0);
            x.on();
            Due.due("a full tape", x.count(3), 10);
            Due.due("a row of two", x.count(4), 2);
        });
    }

    private static WordsTold imaged(WordsTold x) {
        Due.due("image", x.image(), x.count(0) + x.count(1));
        return x;
    }

    private static void answers(String call, int answer, ToIntFunction<WordsTold> asked) {
        Sentences.refused(call, answer, SentencesImageTest::filled, asked);
    }

    private static void refusals() {
        Sentences.holds(29, Sentences.IMAGE, "REFUSALS (the call answers the number,", () -> {
            WordsTold x = filled();
            int[] answers = {x.fewest(2), x.sets(0, 3), x.on(), x.put(-2), x.put(100)};
            int[] due = {-1, -2, -3, -4, -6};
            int[] counts = {1, 1, 1, 1, 0, 1};
            for (int i = 0; i < due.length; i++) {
                Due.due("refusal", answers[i], due[i]);
            }
            for (int i = 0; i < counts.length; i++) {
                Due.due("count " + (11 + i), x.count(11 + i), counts[i]);
            }
        });
        Sentences.holds(29, Sentences.IMAGE, "the first that fits in the order in which it tells them;", () -> {
            answers("-1 ahead of -2 of tellingOf", -1, x -> x.tellingOf(0, 3, 4));
            answers("-1 ahead of -2, -4 of word", -1, x -> x.word(0, 12, 2, -1));
            answers("-1 ahead of -4 of word", -1, x -> x.word(2, 0, 0, -1));
            answers("-1 ahead of -6 of word", -1, x -> x.word(0, -1, 0, 100));
            answers("-2 ahead of -4 of word", -2, x -> x.word(0, 0, 2, -1));
            answers("-2 ahead of -6 of word", -2, x -> x.word(0, 0, -1, 100));
            answers("-1 ahead of -2 of sets", -1, x -> x.sets(2, 3));
            answers("-1 ahead of -3 of spread", -1, x -> x.spread(2, 0, 0));
            answers("-1 ahead of -3 of spread", -1, x -> x.spread(0, 4096, 0));
            answers("-1 ahead of -3 of shows", -1, x -> x.shows(0, 0, 12));
            answers("-1 ahead of -9 of soonest", -1, x -> x.soonest(2, 99));
            Supplier<WordsTold> fullRow = () -> withTapeAndRow(filled(), "", new int[24]);
            Sentences.refused("-4 ahead of -6 of put", -4, fullRow, x -> x.put(-2));
            Supplier<WordsTold> fullChanges = () -> {
                WordsTold x = filled();
                Due.alter(x, 0, 2, "cS");
                Due.alter(x, 0, 2, "cS");
                return withTapeAndRow(x, "m");
            };
            Sentences.refused("-1 ahead of -6 of change", -1, fullChanges, x -> x.change(0, 3));
            Sentences.refused("-6 ahead of a fault of change", -6, fullChanges, x -> x.change(0, 0));
        });
        Sentences.holds(29, Sentences.IMAGE, "nothing changes but how many there were):", () -> {
            Supplier<WordsTold> made = () -> withTapeAndRow(imaged(filled()), "eWab", 3, 4);
            ToIntFunction<WordsTold> allRefused = x -> {
                int sum = x.feed(0, 1) + x.feed(9, 1) + x.feed(7, 1) + x.telling(2) + x.tellingOf(0, 3, 0) + x.tellingOf(0, 0, 4);
                sum += x.word(2, 0, 0, 5) + x.word(0, 0, 2, 5) + x.word(0, 0, 0, -1) + x.word(0, 0, 0, 100) + x.all(0, 12, true);
                sum += x.depth(0, 4096, 0) + x.learnt(0, 4096) + x.put(-2) + x.put(100) + x.judge(2, 0) + x.judge(0, -1);
                sum += x.needed(0, 12) + x.idle(2) + x.leads(0, 12) + x.knot(0, 12) + x.knots(2) + x.fewest(2) + x.lightest(2);
                sum += x.sets(2, 0) + x.sets(0, 3) + x.soonest(2, 0) + x.waits(2) + x.change(0, 3) + x.change(2, 0) + x.mend(2);
                sum += x.spread(0, 1, 12) + x.spread(0, 1, 1) + x.shows(0, 1, 12) + x.shows(0, 1, 1) + x.carries(2) + x.lacks(2);
                int many = 0;
                for (int what = 11; what <= 16; what++) {
                    sum += (what - 10) * x.count(what);
                    many += x.count(what);
                }
                Due.due("as many as were refused, each by its number", sum, 0);
                Due.due("as many as were asked", many, 37);
                return -9;
            };
            WordsTold y = made.get();
            Due.due("refused", allRefused.applyAsInt(y), -9);
            Due.due("the tape", y.count(3), 4);
            Due.due("the row", y.count(4), 2);
            Due.due("eWab", y.telling(0), 3);
            Due.due("d is none", y.judge(0, 0), 0);
            Due.due("the image", y.on(), 4);
        });
        Sentences.holds(29, Sentences.IMAGE, "-1 NOBODY: no such BOOK, WORD, TELLING, set of WORDS.", () -> {
            answers("no such book", -1, x -> x.knots(2));
            answers("no such word", -1, x -> x.knot(0, 12));
            answers("no such telling", -1, x -> x.tellingOf(0, 3, 0));
            answers("no such telling in book 1", -1, x -> x.tellingOf(1, 1, 0));
            answers("no such set", -1, x -> x.learnt(0, 4096));
        });
        Sentences.holds(29, Sentences.IMAGE, "-2 OTHER: what.", () -> {
            answers("what of tellingOf", -2, x -> x.tellingOf(0, 0, 4));
            answers("what of word", -2, x -> x.word(0, 0, 2, 0));
            answers("what of sets", -2, x -> x.sets(0, 3));
        });
        Sentences.holds(29, Sentences.IMAGE, "-3 STATE: it is not as it must be.", () -> {
            answers("no image", -3, x -> x.on());
            answers("a word not known", -3, x -> x.spread(0, 2, 0));
            answers("a word not known", -3, x -> x.shows(0, 2, 0));
            answers("a change of another word", -3, x -> Due.alter(x, 0, 0, "bS"));
        });
        Sentences.holds(29, Sentences.IMAGE, "-4 BELOW: a number below the least.", () -> {
            answers("bytes below 1", -4, x -> x.feed(0, 0));
            answers("hardness below 0", -4, x -> x.word(0, 0, 0, -1));
            answers("met below 0", -4, x -> x.word(0, 0, 1, -1));
            answers("a word of the row below -1", -4, x -> x.put(-2));
        });
        Sentences.holds(29, Sentences.IMAGE, "-6 ROOM: a number above the greatest, no room.", () -> {
            answers("bytes above 8", -6, x -> x.feed(9, 0));
            answers("hardness above 99", -6, x -> x.word(0, 0, 0, 100));
            answers("met above 99", -6, x -> x.word(0, 0, 1, 100));
            answers("a word of the row above 99", -6, x -> x.put(100));
            Sentences.refused("no room on the tape", -6, () -> withTapeAndRow(filled(), "dSxxxxxxxx"), x -> x.feed(1, 0));
            Sentences.refused("no room in the row", -6, () -> withTapeAndRow(filled(), "", new int[24]), x -> x.put(0));
            WordsTold x = filled();
            Due.tell(x, 0, "aS");
            Due.tell(x, 0, "aS");
            Due.due("no room for a fourth", Due.tell(x, 0, "aS"), -6);
            Due.due("counted", x.count(16), 1);
        });
    }

    private static void imageTaken() {
        Sentences.holds(27, "THE IMAGE is taken:", () -> {
            WordsTold x = new WordsTold();
            Due.due("none", x.on(), -3);
            x.image();
            Due.due("there is one", x.on(), 0);
            Due.tell(x, 0, "aS");
            x.image();
            Due.tell(x, 0, "bS");
            Due.due("the later one", x.on(), 1);
            Supplier<WordsTold> made = () -> withTapeAndRow(imaged(filled()), "eS", 3);
            Sentences.leaves("the same again", 4, made, y -> y.image(), made);
        });
        Sentences.holds(27, "how many TELLINGS of both.", () -> {
            Due.due("none", new WordsTold().image(), 0);
            Due.due("3 and 1", filled().image(), 4);
            WordsTold x = new WordsTold();
            for (int i = 0; i < 40; i++) {
                Due.tell(x, i % 2, (char) ('a' + i / 6) + "S");
            }
            Due.due("20 and 20", x.image(), 40);
            Due.due("20 and 20", x.on(), 40);
        });
    }

    private static void on() {
        Sentences.holds(28, "ON from it:", () -> {
            WordsTold x = new WordsTold();
            x.image();
            Due.tell(x, 0, "aS");
            Due.tell(x, 1, "aS");
            x.on();
            Due.due("none in book 0", x.count(0), 0);
            Due.due("none in book 1", x.count(1), 0);
            Due.due("aWb is the first", Due.tell(x, 0, "aWb"), 0);
            Due.due("it is W", x.tellingOf(0, 0, 1), 0);
            x.on();
            Due.due("none again", x.tellingOf(0, 0, 1), -1);
        });
        Sentences.holds(28, "how many TELLINGS of both.", () -> {
            WordsTold x = filled();
            x.image();
            change(x);
            Due.due("3 and 1", x.on(), 4);
            Due.due("3 and 1 again", x.on(), 4);
        });
        Sentences.holds(28, "-3 there is none.", () -> {
            Sentences.refused("on of a new one", -3, () -> new WordsTold(), x -> x.on());
            Sentences.refused("on of a filled one", -3, () -> withTapeAndRow(filled(), "eS", 3), x -> x.on());
            Sentences.refused("on again", -3, () -> {
                WordsTold x = filled();
                x.on();
                return x;
            }, x -> x.on());
        });
    }

    private static void count() {
        Sentences.holds(29, "0, 1 TELLINGS of BOOK 0, 1,", () -> {
            Due.due("of book 0", filled().count(0), 3);
            Due.due("of book 1", filled().count(1), 1);
            Due.due("of an empty one", new WordsTold().count(0), 0);
            WordsTold x = new WordsTold();
            for (int i = 0; i < 20; i++) {
                Due.tell(x, 1, (char) ('a' + i / 3) + "S");
                Due.due("one more", x.count(1), i + 1);
            }
            Due.tell(x, 1, "lS");
            Due.due("no more", x.count(1), 20);
        });
        Sentences.holds(29, "2 CHANGES,", () -> {
            WordsTold x = filled();
            Due.due("of both", x.count(2), 2);
            Due.alter(x, 0, 0, "aS");
            Due.alter(x, 0, 0, "aS");
            Due.alter(x, 0, 0, "aS");
            Due.due("four at most", x.count(2), 4);
        });
        Sentences.holds(29, "3 bytes on THE TAPE,", () -> {
            WordsTold x = new WordsTold();
            for (int i = 1; i <= 10; i++) {
                x.feed(1, 'a');
                Due.due("one more", x.count(3), i);
            }
            x.feed(1, 'a');
            Due.due("no more", x.count(3), 10);
        });
        Sentences.holds(29, "4 WORDS of the row,", () -> {
            WordsTold x = new WordsTold();
            for (int i = 1; i <= 24; i++) {
                x.put(-1);
                Due.due("one more", x.count(4), i);
            }
            x.put(-1);
            Due.due("no more", x.count(4), 24);
            x.judge(0, 0);
            Due.due("none", x.count(4), 0);
        });
        Sentences.holds(29, "11 .. 16 REFUSALS -1 .. -6.", () -> {
            WordsTold x = filled();
            for (int many = 1; many <= 3; many++) {
                x.waits(-1);
                x.sets(0, -1);
                x.on();
                x.put(-2);
                x.put(100);
                Due.due("-1", x.count(11), many);
                Due.due("-2", x.count(12), many);
                Due.due("-3", x.count(13), many);
                Due.due("-4", x.count(14), many);
                Due.due("-5, that no call answers", x.count(15), 0);
                Due.due("-6", x.count(16), many);
            }
            Due.due("count 10", x.count(10), -9);
            Due.due("count 17", x.count(17), -9);
        });
        Sentences.holds(29, "-9 for another what.", () -> {
            int[] others = {-1, -11, -16, 5, 6, 7, 8, 9, 10, 17, 18, 27, 32, 33, 267, Sentences.LEAST, Sentences.LEAST + 1,
                Sentences.LEAST + 11, Sentences.GREATEST};
            for (int what : others) {
                Sentences.leaves("count " + what, -9, SentencesImageTest::filled, x -> x.count(what), SentencesImageTest::filled);
            }
        });
    }
}
