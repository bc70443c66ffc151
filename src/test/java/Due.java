/** What the tests share: the comparing of answers, and texts put on the tape. */
final class Due {
    private static int wrong = 0;
    private static int asked = 0;
    private static String name = "";

    private Due() {
    }

    static void due(String call, long got, long want) {
        asked++;
        if (got != want) {
            wrong++;
            System.out.println(name + call + " answered " + got + ", due is " + want);
        }
    }

    /** What is told ahead of each wrong answer from now on. */
    static void name(String test) {
        name = test;
    }

    static int howManyWrong() {
        return wrong;
    }

    static int howManyAsked() {
        return asked;
    }

    /** Bits of letters: "ac" is 5. */
    static int bits(String letters) {
        int set = 0;
        for (char letter : letters.toCharArray()) {
            set |= 1 << letter - 'a';
        }
        return set;
    }

    static void type(WordsTold x, String text) {
        for (int from = 0; from < text.length(); from += 8) {
            String part = text.substring(from, Math.min(text.length(), from + 8));
            long bytes = 0;
            for (int i = part.length() - 1; i >= 0; i--) {
                bytes = bytes << 8 | part.charAt(i);
            }
            x.feed(part.length(), bytes);
        }
    }

    static int tell(WordsTold x, int book, String text) {
        type(x, text);
        return x.telling(book);
    }

    static int alter(WordsTold x, int book, int telling, String text) {
        type(x, text);
        return x.change(book, telling);
    }

    /** A new object with these tellings in a book. */
    static WordsTold with(int book, String... texts) {
        WordsTold x = new WordsTold();
        for (int i = 0; i < texts.length; i++) {
            due("telling of " + texts[i], tell(x, book, texts[i]), i);
        }
        return x;
    }

    static void end() {
        System.out.println(asked + " answers, " + wrong + " not as due");
        if (wrong != 0 || asked == 0) {
            System.exit(1);
        }
    }
}
