/** Promises 25 to 29: carries, lacks, image, on, count. */
public final class ImageTest {
    public static void main(String[] args) {
        carries();
        image();
        count();
        Due.end();
    }

    private static void carries() {
        WordsTold x = Due.with(0, "aLb", "bLa", "cWa", "dWa");
        Due.due("fewest of 0", x.fewest(0), 4095 - 14);
        for (char word = 'e'; word <= 'l'; word++) {
            Due.tell(x, 0, word + "S");
        }
        Due.due("fewest of 0", x.fewest(0), 1);
        Due.due("not in an empty book", x.carries(0), 0);
        Due.due("lacks the rest", x.lacks(0), 4094);
        Due.due("all 12 carry", x.carries(1), 1);
        Due.due("lack nothing", x.lacks(1), 0);
        String[] texts = {"aWb", "bWc", "cWb", "dWef", "eWd", "fWd", "gS", "hS", "iWjc", "jWi", "kS", "lS"};
        for (int i = 0; i < texts.length; i++) {
            Due.due("telling", Due.tell(x, 1, texts[i]), i);
        }
        Due.due("fewest of 1", x.fewest(1), Due.bits("bdi"));
        Due.due("a is not enough", x.carries(0), 0);
        Due.due("b or c, d, i or j", x.lacks(0), Due.bits("bdi"));
        Due.due("b tells a", x.carries(1), 1);
        Due.due("lacks nothing", x.lacks(1), 0);
        Due.tell(x, 0, "gRa");
        x.all(0, 6, true);
        Due.due("g must be known", x.carries(1), 0);
        Due.due("g is lacking", x.lacks(1), Due.bits("g"));
        Due.due("and a stays", x.lacks(0), Due.bits("bdi"));
        Due.due("no book", x.carries(2), -1);
        Due.due("no book", x.carries(-1), -1);
        Due.due("no book", x.lacks(2), -1);
        Due.due("no book", x.lacks(-1), -1);
        Due.due("NOBODY counted", x.count(11), 4);
    }

    private static void image() {
        WordsTold x = Due.with(1, "aWb", "bKca");
        Due.tell(x, 0, "lS");
        Due.due("none yet", x.on(), -3);
        x.word(1, 3, 0, 42);
        x.word(0, 4, 1, 43);
        x.word(0, 0, 0, 44);
        x.word(1, 11, 1, 45);
        x.all(1, 5, true);
        Due.alter(x, 1, 1, "bS");
        Due.type(x, "ab");
        x.put(3);
        Due.due("image", x.image(), 3);
        Due.type(x, "c");
        x.put(4);
        x.telling(2);
        x.word(1, 3, 0, 1);
        x.word(0, 4, 1, 0);
        x.word(0, 0, 0, 2);
        x.word(1, 11, 1, 3);
        x.all(1, 5, false);
        x.all(0, 5, true);
        x.telling(0);
        Due.tell(x, 0, "aS");
        Due.tell(x, 1, "cS");
        Due.tell(x, 1, "cS");
        Due.alter(x, 1, 1, "bRa");
        Due.type(x, "xy");
        Due.due("six tellings", x.count(0) + x.count(1), 6);
        for (int again = 0; again < 2; again++) {
            Due.due("on", x.on(), 3);
            Due.due("tellings of 0", x.count(0), 1);
            Due.due("tellings of 1", x.count(1), 2);
            Due.due("changes", x.count(2), 1);
            Due.due("the tape as it is", x.count(3), 2);
            Due.due("the row as it is", x.count(4), 2);
            Due.due("refusals as they are", x.count(11) + x.count(13), 2);
            Due.due("hardness", x.word(1, 3, 0, 5), 42);
            Due.due("met", x.word(0, 4, 1, 6), 43);
            Due.due("hardness of a", x.word(0, 0, 0, 7), 44);
            Due.due("met of l", x.word(1, 11, 1, 8), 45);
            Due.due("all", x.all(1, 5, true), 0);
            Due.due("all", x.all(0, 5, true), 1);
            Due.due("mend", x.mend(1), 1);
            Due.due("word of 0", x.tellingOf(0, 0, 0), 11);
            Due.due("kind of 0", x.tellingOf(0, 0, 1), 4);
            Due.due("words of 1", x.tellingOf(1, 1, 2), Due.bits("ac"));
            Due.due("first of 1", x.tellingOf(1, 1, 3), 2);
            Due.due("kind of 1", x.tellingOf(1, 1, 1), 2);
        }
        Due.tell(x, 1, "cS");
        x.telling(0);
        Due.tell(x, 0, "aS");
        Due.due("a later image", x.image(), 4);
        Due.tell(x, 1, "dWa");
        Due.due("five", x.count(0) + x.count(1), 5);
        Due.due("on from the later", x.on(), 4);
        Due.due("kept by the later", x.word(1, 3, 0, 1), 5);
    }

    private static void count() {
        WordsTold x = Due.with(0, "aWb", "bKcd");
        Due.tell(x, 1, "aWb");
        Due.alter(x, 0, 0, "aS");
        Due.type(x, "abcd");
        for (int i = 0; i < 5; i++) {
            x.put(i);
        }
        int[] counts = {2, 1, 1, 4, 5};
        for (int what = 0; what < counts.length; what++) {
            Due.due("count " + what, x.count(what), counts[what]);
        }
        x.telling(2);
        for (int i = 0; i < 2; i++) {
            x.sets(0, 9);
        }
        for (int i = 0; i < 3; i++) {
            x.on();
        }
        for (int i = 0; i < 4; i++) {
            x.put(-2);
        }
        for (int i = 0; i < 6; i++) {
            x.feed(9, 0);
        }
        int[] refusals = {1, 2, 3, 4, 0, 6};
        for (int i = 0; i < refusals.length; i++) {
            Due.due("count " + (11 + i), x.count(11 + i), refusals[i]);
        }
        for (int what : new int[] {-1, 5, 10, 17, Integer.MIN_VALUE, Integer.MAX_VALUE}) {
            Due.due("count " + what, x.count(what), -9);
        }
        Due.due("another what is not refused", x.count(12), 2);
    }
}
