/** Promises 28 and 29: how likely it comes. */
public final class LikelyTest {
    private static final Check CHECK = new Check("LikelyTest");

    public static void main(String[] args) {
        atOnce();
        onTheWay();
        odds();
        others();
        CHECK.close();
    }

    private static void likely(BottledPost post, int place, int to, int n, long upper, long lower) {
        CHECK.due("upper " + place + " " + to + " " + n, post.likely(place, to, n, false), upper);
        CHECK.due("lower " + place + " " + to + " " + n, post.likely(place, to, n, true), lower);
    }

    private static void atOnce() {
        BottledPost post = Tapes.still();
        post.person(3, 0);
        post.person(4, 9);
        likely(post, 3, 0, 1, 1, 2);
        // 5 of 10, then 4 of 10 times 5 of 10: 7 of 10.
        likely(post, 3, 0, 2, 7, 10);
        likely(post, 3, 0, 3, 39, 50);
        // 5 / 6 of all but what is afloat yet: (10 to the 8 less 4 to the 8) * 5 / 6.
        likely(post, 3, 0, 8, 130123, 156250);
        likely(post, 3, 1, 8, 0, 1);
        likely(post, 4, 1, 1, 1, 2);
    }

    private static void onTheWay() {
        BottledPost post = new BottledPost();
        post.person(0, 0);
        post.person(4, 0);
        likely(post, 0, 1, 1, 0, 1);
        // Behind two: 9 of 10 there, 5 of 10 comes.
        likely(post, 0, 1, 2, 9, 20);
        // It stays by 2: 4 of 10 are afloat there.
        likely(post, 0, 1, 3, 63, 100);
        likely(post, 0, 1, 4, 63, 100);
        post.tide(2);
        likely(post, 4, 1, 1, 1, 2);
        // It stays, drifts to 1, then to 4: 9 * 9 of 100, then 5 of 10.
        likely(post, 0, 1, 3, 81, 200);
    }

    private static void odds() {
        BottledPost post = Tapes.still();
        post.person(3, 0);
        CHECK.due("all", post.odds(10, 0), true);
        likely(post, 3, 0, 8, 1, 1);
        CHECK.due("none", post.odds(0, 0), true);
        likely(post, 3, 0, 8, 0, 1);
        CHECK.due("sinks", post.odds(0, 10), true);
        likely(post, 3, 0, 8, 0, 1);
        CHECK.due("1 and 9", post.odds(1, 9), true);
        likely(post, 3, 0, 8, 1, 10);
        CHECK.due("1 and 0", post.odds(1, 0), true);
        likely(post, 3, 0, 8, 56953279, 100000000);
        CHECK.due("11 and 0", post.odds(11, 0), false);
        CHECK.due("0 and 11", post.odds(0, 11), false);
        CHECK.due("-1 and 5", post.odds(-1, 5), false);
        CHECK.due("5 and -1", post.odds(5, -1), false);
        CHECK.due("11 and -1", post.odds(11, -1), false);
        CHECK.due("6 and 5", post.odds(6, 5), false);
        CHECK.due("far", post.odds(Integer.MAX_VALUE, Integer.MAX_VALUE), false);
        CHECK.due("far below", post.odds(5, Integer.MIN_VALUE), false);
        likely(post, 3, 0, 1, 1, 10);
    }

    private static void others() {
        BottledPost post = new BottledPost();
        post.person(0, 0);
        likely(post, -1, 0, 1, -1, -1);
        likely(post, 10, 0, 1, -1, -1);
        likely(post, 0, -1, 1, -1, -1);
        likely(post, 0, 1, 1, -1, -1);
        likely(post, 0, 0, 0, -1, -1);
        likely(post, 0, 0, 9, -1, -1);
    }
}
