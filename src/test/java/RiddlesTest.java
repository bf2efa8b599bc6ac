/** Promises 30 to 38: codes, readings, sorters, orders. */
public final class RiddlesTest {
    private static final Check CHECK = new Check("RiddlesTest");

    public static void main(String[] args) {
        codes();
        clear();
        clearByReadings();
        reads();
        sorters();
        ringsOfSorters();
        orders();
        sure();
        CHECK.close();
    }

    private static BottledPost coded(int... words) {
        BottledPost post = new BottledPost();
        for (int word : words) post.code(word);
        return post;
    }

    private static void codes() {
        BottledPost post = new BottledPost();
        int[] others = {0, -2, 10, 101, 110, 1000, 9990, 10000, 11111, Integer.MAX_VALUE, Integer.MIN_VALUE};
        for (int other : others) CHECK.due("other " + other, post.code(other), -2);
        CHECK.due("none", post.about(5), 0);
        CHECK.due("9999", post.code(9999), 1);
        CHECK.due("1", post.code(1), 2);
        CHECK.due("1 once more", post.code(1), -2);
        for (int word = 2; word <= 7; word++) CHECK.due("word", post.code(word), word + 1);
        CHECK.due("the 9th", post.code(8), -2);
        CHECK.due("eight", post.about(5), 8);
        CHECK.due("none any more", post.code(-1), 0);
        CHECK.due("none", post.about(5), 0);
        CHECK.due("none reads", post.reads(1), 0);
        CHECK.due("first again", post.code(1), 1);
    }

    private static void clear(int shortest, int... words) {
        BottledPost post = coded(words);
        CHECK.due("clear", post.clear(0), shortest < 0 ? 1 : 0);
        CHECK.due("shortest", post.clear(1), shortest);
        CHECK.due("what 2", post.clear(2), -1);
        CHECK.due("what -1", post.clear(-1), -1);
    }

    private static void clear() {
        clear(-1);
        clear(-1, 7);
        clear(-1, 1111);
        clear(-1, 12, 1, 22);
        clear(2, 1, 11);
        clear(2, 11, 111, 222, 1);
        clear(5, 11, 111);
        clear(7, 111, 1111);
        clear(3, 1, 12, 21);
        clear(4, 12, 1, 212);
        clear(-1, 12, 13, 14, 2);
        // What is ahead goes on for ever and never ends.
        clear(-1, 1112, 2222, 11, 1222);
        // 12 3314 5 and 1 2331 45
        clear(7, 1, 12, 2331, 3314, 45, 5);
        clear(-1, 1, 12, 2331, 3314, 45);
        clear(5, 12, 123, 345, 45);
        clear(-1, 12, 123, 345, 456);
    }

    /** What reads says of all short rows tells the shortest unclear one too. */
    private static void clearByReadings() {
        int[][] sets = {{1, 12, 221}, {12, 121, 21}, {122, 1, 22}, {1, 122, 2211}, {11, 112, 12, 2122}, {2, 12, 121, 1122}};
        for (int[] words : sets) {
            BottledPost post = coded(words);
            int shortest = -1;
            for (int digits = 1; digits <= 7 && shortest < 0; digits++) {
                for (int bits = 0; bits < 1 << digits; bits++) {
                    int row = 0;
                    for (int i = 0; i < digits; i++) row = row * 10 + 1 + (bits >> i & 1);
                    if (post.reads(row) > 1) shortest = digits;
                }
            }
            int told = post.clear(1);
            if (shortest >= 0 || told >= 0 && told <= 7) CHECK.due("by readings", told, shortest);
        }
    }

    private static void reads() {
        BottledPost post = coded(1, 11, 111, 1111, 12, 2);
        CHECK.due("1", post.reads(1), 1);
        CHECK.due("1111", post.reads(1111), 8);
        CHECK.due("nine", post.reads(111111111), 208);
        CHECK.due("12", post.reads(12), 2);
        CHECK.due("121", post.reads(121), 2);
        CHECK.due("1212", post.reads(1212), 4);
        CHECK.due("3", post.reads(3), 0);
        CHECK.due("13", post.reads(13), 0);
        CHECK.due("101", post.reads(101), 0);
        CHECK.due("10", post.reads(10), 0);
        CHECK.due("0", post.reads(0), -1);
        CHECK.due("-1", post.reads(-1), -1);
        CHECK.due("1000000000", post.reads(1000000000), -1);
        CHECK.due("999999999", post.reads(999999999), 0);
        CHECK.due("far", post.reads(Integer.MAX_VALUE), -1);
        CHECK.due("nines by one and by four", coded(9999, 9).reads(999999999), 10);
    }

    private static void sorters() {
        BottledPost post = new BottledPost();
        for (int n = 0; n <= 8; n++) CHECK.due("without halves", post.sorters(n), n == 0 ? 0 : 1);
        CHECK.due("halves", post.halves(0, 7), true);
        CHECK.due("they are", post.halves(7, 0), false);
        CHECK.due("they are", post.halves(0, 7), false);
        int[][] others = {{0, 0}, {-1, 0}, {0, -1}, {8, 0}, {0, 8}, {31, 0}, {0, 39}};
        for (int[] other : others) CHECK.due("others", post.halves(other[0], other[1]), false);
        CHECK.due("seven", post.sorters(7), 1);
        CHECK.due("eight", post.sorters(8), 2);
        CHECK.due("who has 7", post.sorter(8, 7), 1);
        CHECK.due("who has 6", post.sorter(8, 6), 0);
        CHECK.due("n -1", post.sorters(-1), -1);
        CHECK.due("n 9", post.sorters(9), -1);
        CHECK.due("sorter of n 9", post.sorter(9, 0), -1);
        CHECK.due("sorter of n 0", post.sorter(0, 0), -1);
        CHECK.due("letter -1", post.sorter(8, -1), -1);
        CHECK.due("letter 7 of 7", post.sorter(7, 7), -1);
        CHECK.due("letter 6 of 7", post.sorter(7, 6), 0);
    }

    private static void ringsOfSorters() {
        BottledPost ring = new BottledPost();
        for (int letter = 0; letter < 5; letter++) ring.halves(letter, (letter + 1) % 5);
        CHECK.due("a ring of five", ring.sorters(5), 3);
        int[] due = {0, 1, 0, 1, 2, 0};
        for (int letter = 0; letter < 6; letter++) CHECK.due("letter " + letter, ring.sorter(6, letter), due[letter]);
        CHECK.due("four of it", ring.sorters(4), 2);
        BottledPost all = new BottledPost();
        for (int a = 0; a < 8; a++) for (int b = 0; b < a; b++) all.halves(a, b);
        for (int n = 0; n <= 8; n++) CHECK.due("all unlike", all.sorters(n), n);
        for (int letter = 0; letter < 8; letter++) CHECK.due("each its own", all.sorter(8, letter), letter);
        // The lowest for each as it comes would be 0 for both 0 and 1, and then three in all.
        BottledPost crown = new BottledPost();
        crown.halves(0, 3);
        crown.halves(1, 2);
        crown.halves(2, 3);
        CHECK.due("two", crown.sorters(4), 2);
        int[] who = {0, 1, 0, 1};
        for (int letter = 0; letter < 4; letter++) CHECK.due("of two " + letter, crown.sorter(4, letter), who[letter]);
        CHECK.due("of the first three 1 has 0", crown.sorter(3, 1), 0);
    }

    private static void orders() {
        BottledPost post = new BottledPost();
        long[] all = {1, 1, 2, 6, 24, 120, 720, 5040, 40320};
        for (int n = 0; n <= 8; n++) CHECK.due("orders of " + n, post.orders(n), all[n]);
        CHECK.due("n -1", post.orders(-1), -1);
        CHECK.due("n 9", post.orders(9), -1);
        int[][] others = {{0, 0}, {-1, 0}, {0, -1}, {8, 0}, {0, 8}};
        for (int[] other : others) CHECK.due("others", post.writes(other[0], other[1]), false);
        CHECK.due("7 before 0", post.writes(7, 0), true);
        CHECK.due("it is so", post.writes(7, 0), false);
        CHECK.due("of the first 7 nothing is told", post.orders(7), 5040);
        CHECK.due("half of them", post.orders(8), 20160);
        CHECK.due("0 before 1", post.writes(0, 1), true);
        CHECK.due("told itself, though it follows", post.writes(7, 1), true);
        CHECK.due("a sixth", post.orders(8), 6720);
        CHECK.due("the other way", post.writes(1, 7), true);
        CHECK.due("none", post.orders(8), 0);
        CHECK.due("of the first 7", post.orders(7), 2520);
        BottledPost chain = new BottledPost();
        for (int letter = 7; letter > 0; letter--) chain.writes(letter, letter - 1);
        for (int n = 0; n <= 8; n++) CHECK.due("a chain of " + n, chain.orders(n), 1);
    }

    private static void sure() {
        BottledPost post = new BottledPost();
        post.writes(0, 1);
        post.writes(1, 2);
        CHECK.due("0 before 1", post.sure(4, 0, 1), 1);
        CHECK.due("0 before 2", post.sure(4, 0, 2), 1);
        CHECK.due("2 before 0", post.sure(4, 2, 0), -1);
        CHECK.due("3 before 0", post.sure(4, 3, 0), 0);
        CHECK.due("0 before 3", post.sure(4, 0, 3), 0);
        CHECK.due("unlike ones", post.sure(4, 0, 0), -2);
        CHECK.due("not of these", post.sure(3, 0, 3), -2);
        CHECK.due("not of these", post.sure(3, 3, 0), -2);
        CHECK.due("a -1", post.sure(3, -1, 0), -2);
        CHECK.due("b -1", post.sure(3, 0, -1), -2);
        CHECK.due("n 9", post.sure(9, 0, 1), -2);
        CHECK.due("n -1", post.sure(-1, 0, 1), -2);
        CHECK.due("n 0", post.sure(0, 0, 1), -2);
        post.writes(3, 5);
        post.writes(5, 4);
        CHECK.due("by one that is not of these", post.sure(5, 3, 4), 0);
        CHECK.due("by one of these", post.sure(6, 3, 4), 1);
        post.writes(2, 0);
        CHECK.due("no order", post.sure(4, 0, 1), -2);
        CHECK.due("nor for others in it", post.sure(4, 3, 1), -2);
        CHECK.due("two are in order", post.sure(2, 0, 1), 1);
    }
}
