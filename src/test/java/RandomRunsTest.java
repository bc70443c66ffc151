import java.util.Random;

/** All promises: runs of 512 calls, drawn from fixed seeds, answered as PlainWords answers. */
public final class RandomRunsTest {
    private static final int RUNS = 120;
    private static final int CALLS = 512;

    private final Random random;
    private final WordsTold x = new WordsTold();
    private final PlainWords plain = new PlainWords();
    private final int wild;
    private final int span;
    private final String kinds;

    private RandomRunsTest(int seed) {
        random = new Random(seed);
        wild = seed % 3 == 0 ? 12 : 60;
        span = 4 + random.nextInt(9);
        kinds = seed % 2 == 0 ? "WPKLSR" : "WWPPKKLLSR";
    }

    public static void main(String[] args) {
        int runs = args.length > 0 ? Integer.parseInt(args[0]) : RUNS;
        int from = args.length > 1 ? Integer.parseInt(args[1]) : 0;
        for (int seed = from; seed < from + runs; seed++) {
            new RandomRunsTest(seed).run(seed);
        }
        Due.end();
    }

    private void run(int seed) {
        int tellFirst = random.nextInt(60);
        for (int call = 0; call < CALLS; call++) {
            String name = "seed " + seed + ", call " + call + ": ";
            if (call < tellFirst || random.nextInt(6) == 0) {
                typeText(name);
                call++;
            } else {
                oneCall(name, random.nextInt(30));
            }
        }
    }

    private int value(int end) {
        if (random.nextInt(wild) == 0) {
            int[] odd = {-1, -2, end, end + 1, Integer.MIN_VALUE, Integer.MAX_VALUE, 100, 4096};
            return odd[random.nextInt(odd.length)];
        }
        return random.nextInt(end);
    }

    private int set() {
        int set = value(4096);
        return random.nextBoolean() && set > 0 && set < 4096 ? set & random.nextInt(4096) & random.nextInt(4096) : set;
    }

    private char letter() {
        return (char) ('a' + random.nextInt(span));
    }

    private String text() {
        StringBuilder text = new StringBuilder();
        char word = letter();
        char kind = kinds.charAt(random.nextInt(kinds.length()));
        text.append(word).append(kind);
        int words = kind == 'S' ? 0 : 1 + random.nextInt(random.nextBoolean() ? 3 : 8);
        for (int i = 0; i < words; i++) {
            char other = (char) ('a' + random.nextInt(12));
            if (random.nextInt(3) > 0) {
                other = letter();
            }
            if (other != word && text.indexOf(String.valueOf(other)) < 0) {
                text.append(other);
            }
        }
        if (random.nextInt(wild) == 0) {
            text.setCharAt(random.nextInt(text.length()), (char) random.nextInt(256));
        }
        return text.toString();
    }

    private void typeText(String name) {
        String text = text();
        for (int from = 0; from < text.length(); from += 8) {
            String part = text.substring(from, Math.min(text.length(), from + 8));
            long bytes = random.nextLong();
            for (int i = part.length() - 1; i >= 0; i--) {
                bytes = bytes << 8 | part.charAt(i);
            }
            Due.due(name + "feed", x.feed(part.length(), bytes), plain.feed(part.length(), bytes));
        }
        int book = value(2);
        if (random.nextInt(5) == 0) {
            change(name, book);
        } else {
            Due.due(name + "telling of " + text, x.telling(book), plain.telling(book));
        }
    }

    /** As often as may be of the telling of the word that lies on the tape, for others are refused. */
    private void change(String name, int book) {
        int telling = value(20);
        Due.due(name + "change", x.change(book, telling), plain.change(book, telling));
    }

    private void changeOfOne(String name, int book) {
        int many = book == 0 || book == 1 ? plain.count(book) : 0;
        if (many == 0 || plain.count(3) > 0) {
            change(name, book);
            return;
        }
        int telling = random.nextInt(many);
        String text = (char) ('a' + plain.tellingOf(book, telling, 0)) + text().substring(1);
        long bytes = 0;
        int length = Math.min(text.length(), 8);
        for (int i = length - 1; i >= 0; i--) {
            bytes = bytes << 8 | text.charAt(i);
        }
        Due.due(name + "feed", x.feed(length, bytes), plain.feed(length, bytes));
        Due.due(name + "change by " + text, x.change(book, telling), plain.change(book, telling));
    }

    private void oneCall(String name, int which) {
        int book = value(2);
        int word = value(12);
        switch (which) {
            case 0: {
                int n = value(9);
                long bytes = random.nextLong();
                if (random.nextInt(4) == 0) {
                    Due.due(name + "feed", x.feed(n, bytes), plain.feed(n, bytes));
                }
                break;
            }
            case 1:
                Due.due(name + "telling", x.telling(book), plain.telling(book));
                break;
            case 2: {
                int telling = value(12);
                int what = value(4);
                Due.due(name + "tellingOf", x.tellingOf(book, telling, what), plain.tellingOf(book, telling, what));
                break;
            }
            case 3: {
                int what = value(2);
                int v = random.nextBoolean() ? value(4) : value(100);
                Due.due(name + "word", x.word(book, word, what, v), plain.word(book, word, what, v));
                break;
            }
            case 4: {
                boolean is = random.nextInt(3) == 0;
                Due.due(name + "all", x.all(book, word, is), plain.all(book, word, is));
                break;
            }
            case 5: {
                int known = set();
                Due.due(name + "depth", x.depth(book, known, word), plain.depth(book, known, word));
                break;
            }
            case 6: {
                int known = set();
                Due.due(name + "learnt", x.learnt(book, known), plain.learnt(book, known));
                break;
            }
            case 7:
                row(name);
                break;
            case 8: {
                int known = set();
                Due.due(name + "judge", x.judge(book, known), plain.judge(book, known));
                break;
            }
            case 9:
                Due.due(name + "needed", x.needed(book, word), plain.needed(book, word));
                break;
            case 10:
                Due.due(name + "idle", x.idle(book), plain.idle(book));
                break;
            case 11:
                Due.due(name + "leads", x.leads(book, word), plain.leads(book, word));
                break;
            case 12:
                Due.due(name + "knot", x.knot(book, word), plain.knot(book, word));
                break;
            case 13:
                Due.due(name + "knots", x.knots(book), plain.knots(book));
                break;
            case 14:
                Due.due(name + "fewest", x.fewest(book), plain.fewest(book));
                break;
            default:
                laterCall(name, which, book, word);
        }
    }

    private void laterCall(String name, int which, int book, int word) {
        switch (which) {
            case 15:
                Due.due(name + "lightest", x.lightest(book), plain.lightest(book));
                break;
            case 16: {
                int what = value(3);
                Due.due(name + "sets", x.sets(book, what), plain.sets(book, what));
                break;
            }
            case 17: {
                int i = value(8);
                Due.due(name + "soonest", x.soonest(book, i), plain.soonest(book, i));
                break;
            }
            case 18:
                Due.due(name + "waits", x.waits(book), plain.waits(book));
                break;
            case 19:
            case 20:
                changeOfOne(name, book);
                break;
            case 21:
            case 22:
                Due.due(name + "mend", x.mend(book), plain.mend(book));
                break;
            case 23: {
                int known = set() | (random.nextInt(4) > 0 && word >= 0 && word < 12 ? 1 << word : 0);
                Due.due(name + "spread", x.spread(book, known, word), plain.spread(book, known, word));
                break;
            }
            case 24: {
                int known = set() | (random.nextInt(4) > 0 && word >= 0 && word < 12 ? 1 << word : 0);
                Due.due(name + "shows", x.shows(book, known, word), plain.shows(book, known, word));
                break;
            }
            case 25:
                Due.due(name + "carries", x.carries(book), plain.carries(book));
                break;
            case 26:
                Due.due(name + "lacks", x.lacks(book), plain.lacks(book));
                break;
            case 27:
                Due.due(name + "image", x.image(), plain.image());
                break;
            case 28:
                if (random.nextInt(2) == 0) {
                    Due.due(name + "on", x.on(), plain.on());
                }
                break;
            default: {
                int what = random.nextBoolean() ? random.nextInt(6) : 10 + random.nextInt(8);
                Due.due(name + "count " + what, x.count(what), plain.count(what));
            }
        }
    }

    private void row(String name) {
        int many = 1 + random.nextInt(5);
        for (int i = 0; i < many; i++) {
            int v = random.nextInt(8) == 0 ? value(100) : value(12);
            Due.due(name + "put", x.put(v), plain.put(v));
        }
    }
}
