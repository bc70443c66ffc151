/**
 * Two books whose words are told by words: what can be learnt from what is known, and which words
 * must be known some other way. The document is ../shared/DOC.md; its names are used here.
 */
public final class WordsTold {
    private static final int WORDS = 12;
    private static final int SETS = 1 << WORDS;
    private static final int EVERY = SETS - 1;
    private static final int TELLINGS = 20;
    private static final int TELLINGS_OF_A_WORD = 3;
    private static final int CHANGES = 4;
    private static final int TAPE = 10;
    private static final int FED_AT_ONCE = 8;
    private static final int ROW = 24;
    private static final int MOST = 99;

    private static final String KINDS = "WPKLSR";
    private static final int WHOLE = 0;
    private static final int PART = 1;
    private static final int KIND = 2;
    private static final int LIKE = 3;
    private static final int SHOWN = 4;

    private static final int NOBODY = -1;
    private static final int OTHER = -2;
    private static final int STATE = -3;
    private static final int BELOW = -4;
    private static final int ROOM = -6;
    private static final int REFUSALS = 6;
    private static final int NONE = -9;
    private static final int FAULT = -20;

    private final Shelf now = new Shelf();
    private final Shelf then = new Shelf();
    private boolean imaged = false;
    private final Tape tape = new Tape();
    private final int[] row = new int[ROW];
    private int rowSize = 0;
    private final int[] refusals = new int[REFUSALS + 1];
    private final Book trial = new Book();
    private final Foundations foundations = new Foundations();

    public WordsTold() {
    }

    public int feed(int n, long bytes) {
        if (n < 1) {
            return refuse(BELOW);
        }
        if (n > FED_AT_ONCE || tape.size + n > TAPE) {
            return refuse(ROOM);
        }
        tape.append(n, bytes);
        return tape.size;
    }

    public int telling(int book) {
        if (!isBook(book)) {
            return refuse(NOBODY);
        }
        Tellings tellings = now.bookAt(book).tellings;
        if (tellings.isFull()) {
            return refuse(ROOM);
        }
        int fault = tape.read();
        tape.size = 0;
        if (fault >= 0) {
            return FAULT - fault;
        }
        if (tellings.howManyOf(tape.word) >= TELLINGS_OF_A_WORD) {
            return refuse(ROOM);
        }
        return tellings.add(tape);
    }

    public int tellingOf(int book, int telling, int what) {
        if (!isBook(book) || !now.bookAt(book).tellings.has(telling)) {
            return refuse(NOBODY);
        }
        Tellings tellings = now.bookAt(book).tellings;
        switch (what) {
            case 0:
                return tellings.words[telling];
            case 1:
                return tellings.kinds[telling];
            case 2:
                return tellings.needs[telling];
            case 3:
                return tellings.firsts[telling];
            default:
                return refuse(OTHER);
        }
    }

    public int word(int book, int word, int what, int v) {
        if (!isBook(book) || !isWord(word)) {
            return refuse(NOBODY);
        }
        if (what != 0 && what != 1) {
            return refuse(OTHER);
        }
        if (v < 0) {
            return refuse(BELOW);
        }
        if (v > MOST) {
            return refuse(ROOM);
        }
        int[] values = what == 0 ? now.bookAt(book).hardness : now.bookAt(book).met;
        int was = values[word];
        values[word] = v;
        return was;
    }

    public int all(int book, int word, boolean is) {
        if (!isBook(book) || !isWord(word)) {
            return refuse(NOBODY);
        }
        Book of = now.bookAt(book);
        if (hasWord(of.byAll, word) == is) {
            return 0;
        }
        of.byAll ^= 1 << word;
        return 1;
    }

    public int depth(int book, int known, int word) {
        if (!isBook(book) || !isSet(known) || !isWord(word)) {
            return refuse(NOBODY);
        }
        return now.bookAt(book).roundOf(known, word);
    }

    public int learnt(int book, int known) {
        if (!isBook(book) || !isSet(known)) {
            return refuse(NOBODY);
        }
        return now.bookAt(book).learntFrom(known);
    }

    public int put(int v) {
        if (v < -1) {
            return refuse(BELOW);
        }
        if (v > MOST || rowSize >= ROW) {
            return refuse(ROOM);
        }
        row[rowSize] = v;
        rowSize++;
        return rowSize;
    }

    public int judge(int book, int known) {
        if (!isBook(book) || !isSet(known)) {
            return refuse(NOBODY);
        }
        int place = firstThatMayNot(now.bookAt(book), known);
        rowSize = 0;
        return place;
    }

    public int needed(int book, int word) {
        if (!isBook(book) || !isWord(word)) {
            return refuse(NOBODY);
        }
        return now.bookAt(book).tellings.neededBy(word);
    }

    public int idle(int book) {
        if (!isBook(book)) {
            return refuse(NOBODY);
        }
        return EVERY & ~now.bookAt(book).tellings.neededByAny();
    }

    public int leads(int book, int word) {
        if (!isBook(book) || !isWord(word)) {
            return refuse(NOBODY);
        }
        return now.bookAt(book).tellings.reachedFrom(word);
    }

    public int knot(int book, int word) {
        if (!isBook(book) || !isWord(word)) {
            return refuse(NOBODY);
        }
        return now.bookAt(book).tellings.knotOf(word);
    }

    public int knots(int book) {
        if (!isBook(book)) {
            return refuse(NOBODY);
        }
        return now.bookAt(book).tellings.howManyKnots();
    }

    public int fewest(int book) {
        if (!isBook(book)) {
            return refuse(NOBODY);
        }
        return fewestOf(now.bookAt(book));
    }

    public int lightest(int book) {
        if (!isBook(book)) {
            return refuse(NOBODY);
        }
        foundations.find(now.bookAt(book), 0);
        return foundations.leastHard(now.bookAt(book));
    }

    public int sets(int book, int what) {
        if (!isBook(book)) {
            return refuse(NOBODY);
        }
        if (what < 0 || what > 2) {
            return refuse(OTHER);
        }
        foundations.find(now.bookAt(book), 0);
        if (what == 0) {
            return foundations.many;
        }
        return what == 1 ? foundations.inAll : foundations.inSome;
    }

    public int soonest(int book, int i) {
        if (!isBook(book)) {
            return refuse(NOBODY);
        }
        if (i < 0 || i >= WORDS) {
            return NONE;
        }
        Book of = now.bookAt(book);
        int learnt = fewestOf(of);
        int next = of.metMostAfter(learnt);
        for (int place = 0; place < i && next >= 0; place++) {
            learnt |= 1 << next;
            next = of.metMostAfter(learnt);
        }
        return next;
    }

    public int waits(int book) {
        if (!isBook(book)) {
            return refuse(NOBODY);
        }
        Book of = now.bookAt(book);
        int learnt = fewestOf(of);
        int sum = 0;
        for (int place = 1; place <= WORDS; place++) {
            int next = of.metMostAfter(learnt);
            if (!isWord(next)) {
                return sum;
            }
            sum += of.met[next] * place;
            learnt |= 1 << next;
        }
        return sum;
    }

    public int change(int book, int telling) {
        if (!isBook(book) || !now.bookAt(book).tellings.has(telling)) {
            return refuse(NOBODY);
        }
        if (now.changes.texts.isFull()) {
            return refuse(ROOM);
        }
        int fault = tape.read();
        tape.size = 0;
        if (fault >= 0) {
            return FAULT - fault;
        }
        if (tape.word != now.bookAt(book).tellings.words[telling]) {
            return refuse(STATE);
        }
        return now.changes.add(book, telling, tape);
    }

    public int mend(int book) {
        if (!isBook(book)) {
            return refuse(NOBODY);
        }
        int may = now.changes.ofBook(book);
        int best = 0;
        int bestWords = WORDS + 1;
        for (int set = 0; set < 1 << CHANGES; set++) {
            if ((set & ~may) != 0) {
                continue;
            }
            int words = fewestWordsAfter(now.bookAt(book), set);
            boolean asFew = words == bestWords && Integer.bitCount(set) < Integer.bitCount(best);
            if (words < bestWords || asFew) {
                best = set;
                bestWords = words;
            }
        }
        return best;
    }

    public int spread(int book, int known, int word) {
        if (!isBook(book) || !isSet(known) || !isWord(word)) {
            return refuse(NOBODY);
        }
        if (!hasWord(known, word)) {
            return refuse(STATE);
        }
        return now.bookAt(book).wrongBy(known, word);
    }

    public int shows(int book, int known, int word) {
        if (!isBook(book) || !isSet(known) || !isWord(word)) {
            return refuse(NOBODY);
        }
        if (!hasWord(known, word)) {
            return refuse(STATE);
        }
        Book of = now.bookAt(book);
        return leastWord(of.wrongBy(known, word) & of.tellings.shownWords());
    }

    public int carries(int book) {
        if (!isBook(book)) {
            return refuse(NOBODY);
        }
        int carried = fewestOf(now.bookAt(book));
        return now.bookAt(1 - book).learntFrom(carried) == EVERY ? 1 : 0;
    }

    public int lacks(int book) {
        if (!isBook(book)) {
            return refuse(NOBODY);
        }
        int carried = fewestOf(now.bookAt(book));
        foundations.find(now.bookAt(1 - book), carried);
        return foundations.fewest & ~carried;
    }

    public int image() {
        then.copyFrom(now);
        imaged = true;
        return now.howManyTellings();
    }

    public int on() {
        if (!imaged) {
            return refuse(STATE);
        }
        now.copyFrom(then);
        return now.howManyTellings();
    }

    public int count(int what) {
        switch (what) {
            case 0:
            case 1:
                return now.bookAt(what).tellings.size;
            case 2:
                return now.changes.texts.size;
            case 3:
                return tape.size;
            case 4:
                return rowSize;
            default:
                return what > 10 && what <= 10 + REFUSALS ? refusals[what - 10] : NONE;
        }
    }

    private int refuse(int refusal) {
        int place = -refusal;
        if (place > 0 && place < refusals.length) {
            refusals[place]++;
        }
        return refusal;
    }

    private int firstThatMayNot(Book book, int known) {
        int learnt = known;
        for (int place = 0; place < rowSize; place++) {
            int word = row[place];
            if (!isWord(word) || !hasWord(book.taughtNext(learnt), word)) {
                return place;
            }
            learnt |= 1 << word;
        }
        return NONE;
    }

    private int fewestOf(Book book) {
        foundations.find(book, 0);
        return foundations.fewest;
    }

    private int fewestWordsAfter(Book book, int set) {
        trial.copyFrom(book);
        now.changes.makeIn(trial, set);
        foundations.find(trial, 0);
        return foundations.fewestWords;
    }

    private static boolean isBook(int book) {
        return book == 0 || book == 1;
    }

    private static boolean isWord(int word) {
        return word >= 0 && word < WORDS;
    }

    private static boolean isSet(int set) {
        return set >= 0 && set < SETS;
    }

    private static boolean hasWord(int set, int word) {
        return (set >> word & 1) != 0;
    }

    private static int leastWord(int set) {
        for (int word = 0; word < WORDS; word++) {
            if (hasWord(set, word)) {
                return word;
            }
        }
        return NONE;
    }

    /** THE TAPE, and what was read from it last. */
    private static final class Tape {
        private final int[] bytes = new int[TAPE];
        private int size = 0;
        private int word = 0;
        private int kind = 0;
        private int needs = 0;
        private int first = NONE;

        void append(int n, long come) {
            for (int i = 0; i < n && size < TAPE; i++) {
                bytes[size] = (int) (come >>> (8 * i)) & 255;
                size++;
            }
        }

        /** Answers the place of the FAULT, -1 if there is none. */
        int read() {
            word = letterAt(0);
            if (word < 0) {
                return 0;
            }
            kind = size > 1 ? KINDS.indexOf((char) bytes[1]) : -1;
            if (kind < 0) {
                return 1;
            }
            return readWords();
        }

        // The tape has no room for a ninth word, so none is looked for.
        private int readWords() {
            needs = 0;
            first = NONE;
            for (int place = 2; place < size; place++) {
                int need = letterAt(place);
                if (kind == SHOWN || need < 0 || need == word || hasWord(needs, need)) {
                    return place;
                }
                if (needs == 0) {
                    first = need;
                }
                needs |= 1 << need;
            }
            return kind != SHOWN && needs == 0 ? size : -1;
        }

        private int letterAt(int place) {
            if (place >= size) {
                return -1;
            }
            int letter = bytes[place] - 'a';
            return isWord(letter) ? letter : -1;
        }
    }

    /** TELLINGS by number, in rows of one length. */
    private static final class Tellings {
        private final int[] words;
        private final int[] kinds;
        private final int[] needs;
        private final int[] firsts;
        private int size = 0;

        Tellings(int room) {
            int length = Math.max(room, 0);
            words = new int[length];
            kinds = new int[length];
            needs = new int[length];
            firsts = new int[length];
        }

        boolean isFull() {
            return size >= words.length;
        }

        boolean has(int number) {
            return number >= 0 && number < size;
        }

        /** Answers the number of the new one; -1 if there is no room. */
        int add(Tape tape) {
            if (isFull()) {
                return -1;
            }
            words[size] = tape.word;
            kinds[size] = tape.kind;
            needs[size] = tape.needs;
            firsts[size] = tape.first;
            size++;
            return size - 1;
        }

        void replace(int number, Tellings from, int other) {
            if (has(number) && from.has(other)) {
                words[number] = from.words[other];
                kinds[number] = from.kinds[other];
                needs[number] = from.needs[other];
                firsts[number] = from.firsts[other];
            }
        }

        void copyFrom(Tellings from) {
            size = Math.min(from.size, words.length);
            for (int number = 0; number < size; number++) {
                replace(number, from, number);
            }
        }

        int howManyOf(int word) {
            int many = 0;
            for (int number = 0; number < size; number++) {
                if (words[number] == word) {
                    many++;
                }
            }
            return many;
        }

        /** Whether the telling teaches by what is learnt; the number is one that is. */
        boolean teaches(int number, int learnt) {
            int need = needs[number];
            int here = need & learnt;
            switch (kinds[number]) {
                case WHOLE:
                    return here == need;
                case PART:
                    return 2 * Integer.bitCount(here) > Integer.bitCount(need);
                case KIND:
                    int first = 1 << firsts[number];
                    return (here & first) != 0 && (here != first || need == first);
                case LIKE:
                    return here != 0;
                case SHOWN:
                    return true;
                default:
                    return false;
            }
        }

        int neededBy(int word) {
            int set = 0;
            for (int number = 0; number < size; number++) {
                if (words[number] == word) {
                    set |= needs[number];
                }
            }
            return set;
        }

        // A telling never has its own word, so each word it has is another's.
        int neededByAny() {
            int set = 0;
            for (int number = 0; number < size; number++) {
                set |= needs[number];
            }
            return set;
        }

        int reachedFrom(int word) {
            int reached = neededBy(word);
            // Each round but the last brings a word, so twelve are enough.
            for (int round = 0; round < WORDS; round++) {
                int more = reached;
                for (int number = 0; number < size; number++) {
                    if (hasWord(more, words[number])) {
                        more |= needs[number];
                    }
                }
                if (more == reached) {
                    return reached;
                }
                reached = more;
            }
            return reached;
        }

        int knotOf(int word) {
            int set = 1 << word;
            int reached = reachedFrom(word);
            for (int other = 0; other < WORDS; other++) {
                if (hasWord(reached, other) && hasWord(reachedFrom(other), word)) {
                    set |= 1 << other;
                }
            }
            return set;
        }

        // No word lies in two knots, so each knot is counted at its least word.
        int howManyKnots() {
            int many = 0;
            for (int word = 0; word < WORDS; word++) {
                int set = knotOf(word);
                if (leastWord(set) == word && Integer.bitCount(set) > 1) {
                    many++;
                }
            }
            return many;
        }

        int shownWords() {
            int set = 0;
            for (int number = 0; number < size; number++) {
                if (kinds[number] == SHOWN) {
                    set |= 1 << words[number];
                }
            }
            return set;
        }
    }

    /** A BOOK: its words and tellings, and what can be learnt in it. */
    private static final class Book {
        private final Tellings tellings = new Tellings(TELLINGS);
        private final int[] hardness = new int[WORDS];
        private final int[] met = new int[WORDS];
        private int byAll = 0;

        Book() {
            for (int word = 0; word < WORDS; word++) {
                hardness[word] = 1;
            }
        }

        void copyFrom(Book from) {
            tellings.copyFrom(from.tellings);
            for (int word = 0; word < WORDS; word++) {
                hardness[word] = from.hardness[word];
                met[word] = from.met[word];
            }
            byAll = from.byAll;
        }

        /** All words not learnt that can be by what is. */
        int taughtNext(int learnt) {
            int taught = 0;
            int failed = 0;
            for (int number = 0; number < tellings.size; number++) {
                int bit = 1 << tellings.words[number];
                if ((learnt & bit) != 0) {
                    continue;
                }
                if (tellings.teaches(number, learnt)) {
                    taught |= bit;
                } else {
                    failed |= bit;
                }
            }
            return taught & ~(failed & byAll);
        }

        /** Some of the words that can be learnt now, one at least; 0 there are none. */
        int someTaughtNext(int learnt) {
            int settled = learnt | byAll;
            for (int number = 0; number < tellings.size; number++) {
                int bit = 1 << tellings.words[number];
                if ((settled & bit) == 0 && tellings.teaches(number, learnt)) {
                    return bit;
                }
            }
            return byAll == 0 ? 0 : taughtNext(learnt);
        }

        int learntFrom(int known) {
            int learnt = known;
            for (int round = 1; round <= WORDS; round++) {
                int next = taughtNext(learnt);
                if (next == 0) {
                    return learnt;
                }
                learnt |= next;
            }
            return learnt;
        }

        int roundOf(int known, int word) {
            int learnt = known;
            for (int round = 0; round <= WORDS; round++) {
                if (hasWord(learnt, word)) {
                    return round;
                }
                int next = taughtNext(learnt);
                if (next == 0) {
                    return NONE;
                }
                learnt |= next;
            }
            return NONE;
        }

        /** Words that can't be learnt even when all the others are. */
        int neverTaught() {
            int set = 0;
            for (int word = 0; word < WORDS; word++) {
                if (!hasWord(taughtNext(EVERY & ~(1 << word)), word)) {
                    set |= 1 << word;
                }
            }
            return set;
        }

        /** Of the words that can be learnt now the one met most; -9 none. */
        int metMostAfter(int learnt) {
            int next = taughtNext(learnt);
            int best = NONE;
            int bestMet = -1;
            for (int word = 0; word < WORDS; word++) {
                if (hasWord(next, word) && met[word] > bestMet) {
                    best = word;
                    bestMet = met[word];
                }
            }
            return best;
        }

        int hardnessOf(int set) {
            int sum = 0;
            for (int word = 0; word < WORDS; word++) {
                if (hasWord(set, word)) {
                    sum += hardness[word];
                }
            }
            return sum;
        }

        /** All words that are wrong when this one of the known ones is. */
        int wrongBy(int known, int word) {
            int learnt = known;
            int wrong = 1 << word;
            for (int round = 1; round <= WORDS; round++) {
                int next = taughtNext(learnt);
                if (next == 0) {
                    return wrong;
                }
                wrong |= wrongAmong(next, learnt, wrong);
                learnt |= next;
            }
            return wrong;
        }

        // What is wrong was learnt in rounds ahead, so the round needs no look of its own.
        private int wrongAmong(int next, int learnt, int wrong) {
            int set = 0;
            for (int word = 0; word < WORDS; word++) {
                if (hasWord(next, word) && (learntBy(word, learnt) & wrong) != 0) {
                    set |= 1 << word;
                }
            }
            return set;
        }

        /** The words of the telling, or of all the tellings, by which the word is learnt. */
        private int learntBy(int word, int learnt) {
            if (hasWord(byAll, word)) {
                return tellings.neededBy(word);
            }
            for (int number = 0; number < tellings.size; number++) {
                if (tellings.words[number] == word && tellings.teaches(number, learnt)) {
                    return tellings.needs[number];
                }
            }
            return 0;
        }
    }

    /** CHANGES of both books: of which book's which telling each is, and what it may become. */
    private static final class Changes {
        private final Tellings texts = new Tellings(CHANGES);
        private final int[] books = new int[CHANGES];
        private final int[] numbers = new int[CHANGES];

        /** Answers the number of the new one; -1 if there is no room. */
        int add(int book, int telling, Tape tape) {
            int number = texts.add(tape);
            if (number >= 0 && number < CHANGES) {
                books[number] = book;
                numbers[number] = telling;
            }
            return number;
        }

        int ofBook(int book) {
            int set = 0;
            for (int number = 0; number < texts.size; number++) {
                if (books[number] == book) {
                    set |= 1 << number;
                }
            }
            return set;
        }

        // In rising order, so that of one telling the greatest number counts.
        void makeIn(Book book, int set) {
            for (int number = 0; number < texts.size; number++) {
                if (hasWord(set, number)) {
                    book.tellings.replace(numbers[number], texts, number);
                }
            }
        }

        void copyFrom(Changes from) {
            texts.copyFrom(from.texts);
            for (int number = 0; number < CHANGES; number++) {
                books[number] = from.books[number];
                numbers[number] = from.numbers[number];
            }
        }
    }

    /** What THE IMAGE holds: both books and the changes. */
    private static final class Shelf {
        private final Book zeroth = new Book();
        private final Book first = new Book();
        private final Changes changes = new Changes();

        Book bookAt(int book) {
            return book == 0 ? zeroth : first;
        }

        int howManyTellings() {
            return zeroth.tellings.size + first.tellings.size;
        }

        void copyFrom(Shelf from) {
            zeroth.copyFrom(from.zeroth);
            first.copyFrom(from.first);
            changes.copyFrom(from.changes);
        }
    }

    /**
     * FOUNDATIONS of a book that have all words of a given set. Each has the core, too: the words
     * that are never taught. What is learnt from the core is the ground: a word of it that is not
     * in the core may be left out of any foundation, so neither the fewest nor the least hard
     * (which have fewer words, if as hard) have it. Only sets of words outside the ground are
     * looked at.
     */
    private static final class Foundations {
        private final boolean[] founded = new boolean[SETS];
        private int core = 0;
        private int ground = 0;
        private int fewest = EVERY;
        private int fewestWords = WORDS;
        private int many = 0;
        private int inAll = 0;
        private int inSome = 0;

        void find(Book book, int given) {
            core = given | book.neverTaught();
            ground = book.learntFrom(core);
            fewest = EVERY;
            fewestWords = WORDS + 1;
            int free = EVERY & ~ground;
            for (int extra = free; extra > 0; extra = (extra - 1) & free) {
                look(book, extra);
            }
            look(book, 0);
        }

        // Sets fall, so one that has more than this one was looked at ahead of it. If a word more
        // (the least that lacks) does not make a foundation, this set is none.
        private void look(Book book, int extra) {
            int set = ground | extra;
            boolean is = set == EVERY;
            if (!is && founded[set | (set + 1)]) {
                int next = book.someTaughtNext(set);
                is = next != 0 && founded[set | next];
            }
            founded[set] = is;
            if (is) {
                note(core | extra);
            }
        }

        private void note(int foundation) {
            int words = Integer.bitCount(foundation);
            if (words > fewestWords) {
                return;
            }
            if (words < fewestWords) {
                fewest = foundation;
                fewestWords = words;
                many = 0;
                inAll = EVERY;
                inSome = 0;
            }
            fewest = Math.min(fewest, foundation);
            many++;
            inAll &= foundation;
            inSome |= foundation;
        }

        /** LIGHTEST of what was found last in the book. */
        int leastHard(Book book) {
            int free = EVERY & ~ground;
            int best = core | free;
            for (int extra = free; extra > 0; extra = (extra - 1) & free) {
                best = lighter(book, best, extra);
            }
            return lighter(book, best, 0);
        }

        private int lighter(Book book, int best, int extra) {
            if (!founded[ground | extra]) {
                return best;
            }
            int other = core | extra;
            int less = Integer.compare(book.hardnessOf(other), book.hardnessOf(best));
            if (less == 0) {
                less = Integer.compare(Integer.bitCount(other), Integer.bitCount(best));
            }
            if (less == 0) {
                less = Integer.compare(other, best);
            }
            return less < 0 ? other : best;
        }
    }
}
