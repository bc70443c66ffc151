import java.util.ArrayList;
import java.util.HashMap;
import java.util.List;
import java.util.Map;

/**
 * The document once more, told as plainly as it goes and looked up in no cleverer way than by
 * trying every set: what random runs are compared with.
 */
final class PlainWords {
    private static final int EVERY = 4095;

    private static final class Book implements Cloneable {
        List<String> texts = new ArrayList<>();
        int[] hardness = {1, 1, 1, 1, 1, 1, 1, 1, 1, 1, 1, 1};
        int[] met = new int[12];
        boolean[] all = new boolean[12];

        Book copy() {
            Book other = new Book();
            other.texts = new ArrayList<>(texts);
            other.hardness = hardness.clone();
            other.met = met.clone();
            other.all = all.clone();
            return other;
        }

        int round(int known, int word) {
            return rounds(known)[word];
        }

        int[] rounds(int known) {
            int[] rounds = new int[12];
            for (int word = 0; word < 12; word++) {
                rounds[word] = (known >> word & 1) != 0 ? 0 : -9;
            }
            int learnt = known;
            for (int round = 1; round <= 13; round++) {
                int ahead = learnt;
                for (int word = 0; word < 12; word++) {
                    if ((ahead >> word & 1) == 0 && canBe(word, ahead)) {
                        rounds[word] = round;
                        learnt |= 1 << word;
                    }
                }
                if (learnt == ahead) {
                    break;
                }
            }
            return rounds;
        }

        int learnt(int known) {
            int[] rounds = rounds(known);
            int set = 0;
            for (int word = 0; word < 12; word++) {
                set |= rounds[word] >= 0 ? 1 << word : 0;
            }
            return set;
        }

        boolean canBe(int word, int learnt) {
            int told = 0;
            int taught = 0;
            for (String text : texts) {
                if (text.charAt(0) - 'a' == word) {
                    told++;
                    taught += teaches(text, learnt) ? 1 : 0;
                }
            }
            return all[word] ? told > 0 && told == taught : taught > 0;
        }

        int needed(int word) {
            int set = 0;
            for (String text : texts) {
                set |= text.charAt(0) - 'a' == word ? words(text) : 0;
            }
            return set;
        }
    }

    static int words(String text) {
        int set = 0;
        for (int i = 2; i < text.length(); i++) {
            set |= 1 << text.charAt(i) - 'a';
        }
        return set;
    }

    static boolean teaches(String text, int learnt) {
        int has = 0;
        int of = text.length() - 2;
        for (int i = 2; i < text.length(); i++) {
            has += learnt >> text.charAt(i) - 'a' & 1;
        }
        switch (text.charAt(1)) {
            case 'W': return has == of;
            case 'P': return has > of - has;
            case 'K': return (learnt >> text.charAt(2) - 'a' & 1) == 1 && (of == 1 || has >= 2);
            case 'L': return has >= 1;
            case 'S': return true;
            default: return false;
        }
    }

    private Book[] books = {new Book(), new Book()};
    private List<int[]> changes = new ArrayList<>();
    private List<String> changeTexts = new ArrayList<>();
    private Book[] imageBooks = null;
    private List<int[]> imageChanges = null;
    private List<String> imageTexts = null;
    private String tape = "";
    private final List<Integer> row = new ArrayList<>();
    private final Map<Integer, Integer> refusals = new HashMap<>();
    private final Map<String, List<Integer>> known = new HashMap<>();

    private int no(int refusal) {
        refusals.merge(refusal, 1, Integer::sum);
        return refusal;
    }

    private static boolean out(int value, int end) {
        return value < 0 || value >= end;
    }

    int feed(int n, long bytes) {
        if (n < 1) {
            return no(-4);
        }
        if (n > 8 || tape.length() + n > 10) {
            return no(-6);
        }
        for (int i = 0; i < n; i++) {
            tape += (char) (bytes >> 8 * i & 0xff);
        }
        return tape.length();
    }

    private static int fault(String text) {
        if (text.isEmpty() || text.charAt(0) < 'a' || text.charAt(0) > 'l') {
            return 0;
        }
        if (text.length() < 2 || "WPKLSR".indexOf(text.charAt(1)) < 0) {
            return 1;
        }
        boolean shown = text.charAt(1) == 'S';
        for (int i = 2; i < text.length(); i++) {
            char c = text.charAt(i);
            boolean again = text.substring(2, i).indexOf(c) >= 0 || text.charAt(0) == c;
            if (shown || c < 'a' || c > 'l' || again) {
                return i;
            }
        }
        return text.length() == 2 && !shown ? 2 : -1;
    }

    int telling(int book) {
        if (out(book, 2)) {
            return no(-1);
        }
        List<String> texts = books[book].texts;
        if (texts.size() == 20) {
            return no(-6);
        }
        String text = tape;
        tape = "";
        if (fault(text) >= 0) {
            return -20 - fault(text);
        }
        if (texts.stream().filter(t -> t.charAt(0) == text.charAt(0)).count() == 3) {
            return no(-6);
        }
        texts.add(text);
        return texts.size() - 1;
    }

    int tellingOf(int book, int telling, int what) {
        if (out(book, 2) || out(telling, books[book].texts.size())) {
            return no(-1);
        }
        String text = books[book].texts.get(telling);
        switch (what) {
            case 0: return text.charAt(0) - 'a';
            case 1: return "WPKLSR".indexOf(text.charAt(1));
            case 2: return words(text);
            case 3: return text.length() > 2 ? text.charAt(2) - 'a' : -9;
            default: return no(-2);
        }
    }

    int word(int book, int word, int what, int v) {
        if (out(book, 2) || out(word, 12)) {
            return no(-1);
        }
        if (out(what, 2)) {
            return no(-2);
        }
        if (v < 0) {
            return no(-4);
        }
        if (v > 99) {
            return no(-6);
        }
        int[] values = what == 0 ? books[book].hardness : books[book].met;
        int was = values[word];
        values[word] = v;
        return was;
    }

    int all(int book, int word, boolean is) {
        if (out(book, 2) || out(word, 12)) {
            return no(-1);
        }
        boolean was = books[book].all[word];
        books[book].all[word] = is;
        return was == is ? 0 : 1;
    }

    int depth(int book, int set, int word) {
        return out(book, 2) || out(set, 4096) || out(word, 12) ? no(-1) : books[book].round(set, word);
    }

    int learnt(int book, int set) {
        return out(book, 2) || out(set, 4096) ? no(-1) : books[book].learnt(set);
    }

    int put(int v) {
        if (v < -1) {
            return no(-4);
        }
        if (v > 99 || row.size() == 24) {
            return no(-6);
        }
        row.add(v);
        return row.size();
    }

    int judge(int book, int set) {
        if (out(book, 2) || out(set, 4096)) {
            return no(-1);
        }
        int learnt = set;
        int bad = -9;
        for (int i = 0; i < row.size() && bad < 0; i++) {
            int word = row.get(i);
            if (out(word, 12) || (learnt >> word & 1) != 0 || !books[book].canBe(word, learnt)) {
                bad = i;
            } else {
                learnt |= 1 << word;
            }
        }
        row.clear();
        return bad;
    }

    int needed(int book, int word) {
        return out(book, 2) || out(word, 12) ? no(-1) : books[book].needed(word);
    }

    int idle(int book) {
        if (out(book, 2)) {
            return no(-1);
        }
        int set = EVERY;
        for (String text : books[book].texts) {
            set &= ~words(text);
        }
        return set;
    }

    private boolean[][] paths(Book book) {
        boolean[][] to = new boolean[12][12];
        for (int i = 0; i < 12; i++) {
            for (int j = 0; j < 12; j++) {
                to[i][j] = (book.needed(i) >> j & 1) != 0;
            }
        }
        for (int k = 0; k < 12; k++) {
            for (int i = 0; i < 12; i++) {
                for (int j = 0; j < 12; j++) {
                    to[i][j] |= to[i][k] && to[k][j];
                }
            }
        }
        return to;
    }

    int leads(int book, int word) {
        if (out(book, 2) || out(word, 12)) {
            return no(-1);
        }
        int set = 0;
        for (int other = 0; other < 12; other++) {
            set |= paths(books[book])[word][other] ? 1 << other : 0;
        }
        return set;
    }

    private int knotOf(Book book, int word) {
        boolean[][] to = paths(book);
        int set = 1 << word;
        for (int other = 0; other < 12; other++) {
            set |= to[word][other] && to[other][word] ? 1 << other : 0;
        }
        return set;
    }

    int knot(int book, int word) {
        return out(book, 2) || out(word, 12) ? no(-1) : knotOf(books[book], word);
    }

    int knots(int book) {
        if (out(book, 2)) {
            return no(-1);
        }
        List<Integer> unlike = new ArrayList<>();
        for (int word = 0; word < 12; word++) {
            int set = knotOf(books[book], word);
            if (Integer.bitCount(set) >= 2 && !unlike.contains(set)) {
                unlike.add(set);
            }
        }
        return unlike.size();
    }

    /** All foundations, the least as bits first. */
    private List<Integer> foundations(Book book) {
        StringBuilder key = new StringBuilder(book.texts.toString());
        for (boolean is : book.all) {
            key.append(is ? '1' : '0');
        }
        return known.computeIfAbsent(key.toString(), k -> {
            List<Integer> found = new ArrayList<>();
            for (int set = 0; set < 4096; set++) {
                if (book.learnt(set) == EVERY) {
                    found.add(set);
                }
            }
            return found;
        });
    }

    private int fewestOf(Book book) {
        int best = EVERY;
        for (int set : foundations(book)) {
            best = Integer.bitCount(set) < Integer.bitCount(best) ? set : best;
        }
        return best;
    }

    int fewest(int book) {
        return out(book, 2) ? no(-1) : fewestOf(books[book]);
    }

    int lightest(int book) {
        if (out(book, 2)) {
            return no(-1);
        }
        int best = -1;
        int bestRank = Integer.MAX_VALUE;
        for (int set : foundations(books[book])) {
            int rank = 0;
            for (int word = 0; word < 12; word++) {
                rank += (set >> word & 1) * (books[book].hardness[word] * 100 + 1);
            }
            if (rank < bestRank) {
                best = set;
                bestRank = rank;
            }
        }
        return best;
    }

    int sets(int book, int what) {
        if (out(book, 2)) {
            return no(-1);
        }
        if (out(what, 3)) {
            return no(-2);
        }
        int words = Integer.bitCount(fewestOf(books[book]));
        int[] answers = {0, EVERY, 0};
        for (int set : foundations(books[book])) {
            if (Integer.bitCount(set) == words) {
                answers[0]++;
                answers[1] &= set;
                answers[2] |= set;
            }
        }
        return answers[what];
    }

    private List<Integer> order(Book book) {
        List<Integer> order = new ArrayList<>();
        int learnt = fewestOf(book);
        while (learnt != EVERY) {
            int best = -1;
            for (int word = 11; word >= 0; word--) {
                boolean could = (learnt >> word & 1) == 0 && book.canBe(word, learnt);
                if (could && (best < 0 || book.met[word] >= book.met[best])) {
                    best = word;
                }
            }
            order.add(best);
            learnt |= 1 << best;
        }
        return order;
    }

    int soonest(int book, int i) {
        if (out(book, 2)) {
            return no(-1);
        }
        List<Integer> order = order(books[book]);
        return out(i, order.size()) ? -9 : order.get(i);
    }

    int waits(int book) {
        if (out(book, 2)) {
            return no(-1);
        }
        List<Integer> order = order(books[book]);
        int sum = 0;
        for (int i = 0; i < order.size(); i++) {
            sum += books[book].met[order.get(i)] * (i + 1);
        }
        return sum;
    }

    int change(int book, int telling) {
        if (out(book, 2) || out(telling, books[book].texts.size())) {
            return no(-1);
        }
        if (changes.size() == 4) {
            return no(-6);
        }
        String text = tape;
        tape = "";
        if (fault(text) >= 0) {
            return -20 - fault(text);
        }
        if (text.charAt(0) != books[book].texts.get(telling).charAt(0)) {
            return no(-3);
        }
        changes.add(new int[] {book, telling});
        changeTexts.add(text);
        return changes.size() - 1;
    }

    int mend(int book) {
        if (out(book, 2)) {
            return no(-1);
        }
        int best = 0;
        int bestRank = Integer.MAX_VALUE;
        for (int set = 0; set < 1 << changes.size(); set++) {
            Book other = books[book].copy();
            boolean ours = true;
            for (int i = 0; i < changes.size(); i++) {
                if ((set >> i & 1) != 0) {
                    ours &= changes.get(i)[0] == book;
                    if (ours) {
                        other.texts.set(changes.get(i)[1], changeTexts.get(i));
                    }
                }
            }
            if (ours) {
                int rank = Integer.bitCount(fewestOf(other)) * 100 + Integer.bitCount(set);
                if (rank < bestRank) {
                    best = set;
                    bestRank = rank;
                }
            }
        }
        return best;
    }

    private int wrong(Book book, int set, int word) {
        int[] rounds = book.rounds(set);
        boolean[] wrong = new boolean[12];
        wrong[word] = true;
        for (int round = 1; round <= 12; round++) {
            for (int w = 0; w < 12; w++) {
                if (rounds[w] != round) {
                    continue;
                }
                int ahead = 0;
                for (int v = 0; v < 12; v++) {
                    ahead |= rounds[v] >= 0 && rounds[v] < round ? 1 << v : 0;
                }
                boolean done = false;
                for (String text : book.texts) {
                    if (text.charAt(0) - 'a' != w || done || !teaches(text, ahead)) {
                        continue;
                    }
                    for (int v = 0; v < 12; v++) {
                        wrong[w] |= (words(text) & ahead & 1 << v) != 0 && wrong[v];
                    }
                    done = !book.all[w];
                }
            }
        }
        int bits = 0;
        for (int w = 0; w < 12; w++) {
            bits |= wrong[w] ? 1 << w : 0;
        }
        return bits;
    }

    int spread(int book, int set, int word) {
        if (out(book, 2) || out(set, 4096) || out(word, 12)) {
            return no(-1);
        }
        return (set >> word & 1) == 0 ? no(-3) : wrong(books[book], set, word);
    }

    int shows(int book, int set, int word) {
        int wrong = spread(book, set, word);
        if (wrong < 0) {
            return wrong;
        }
        int least = -9;
        for (String text : books[book].texts) {
            int w = text.charAt(0) - 'a';
            if (text.charAt(1) == 'S' && (wrong >> w & 1) != 0 && (least < 0 || w < least)) {
                least = w;
            }
        }
        return least;
    }

    int carries(int book) {
        if (out(book, 2)) {
            return no(-1);
        }
        return foundations(books[1 - book]).contains(fewestOf(books[book])) ? 1 : 0;
    }

    int lacks(int book) {
        if (out(book, 2)) {
            return no(-1);
        }
        int has = fewestOf(books[book]);
        List<Integer> there = foundations(books[1 - book]);
        int best = EVERY;
        for (int come = 0; come < 4096; come++) {
            if (Integer.bitCount(come) < Integer.bitCount(best) && java.util.Collections.binarySearch(there, has | come) >= 0) {
                best = come;
            }
        }
        return Integer.bitCount(best) == 12 ? EVERY & ~has : best;
    }

    int image() {
        imageBooks = new Book[] {books[0].copy(), books[1].copy()};
        imageChanges = new ArrayList<>(changes);
        imageTexts = new ArrayList<>(changeTexts);
        return books[0].texts.size() + books[1].texts.size();
    }

    int on() {
        if (imageBooks == null) {
            return no(-3);
        }
        books = new Book[] {imageBooks[0].copy(), imageBooks[1].copy()};
        changes = new ArrayList<>(imageChanges);
        changeTexts = new ArrayList<>(imageTexts);
        return books[0].texts.size() + books[1].texts.size();
    }

    int count(int what) {
        switch (what) {
            case 0: return books[0].texts.size();
            case 1: return books[1].texts.size();
            case 2: return changes.size();
            case 3: return tape.length();
            case 4: return row.size();
            default: return what >= 11 && what <= 16 ? refusals.getOrDefault(10 - what, 0) : -9;
        }
    }
}
