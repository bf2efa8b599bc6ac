/** Promises 39 to 45: whose law it was, luckiest, eldest, crowd, empty places, by the book. */
public final class TalliesTest {
    private static final Check CHECK = new Check("TalliesTest");

    public static void main(String[] args) {
        said();
        whose();
        luckiest();
        eldest();
        crowd();
        empty();
        ledger();
        CHECK.close();
    }

    private static BottledPost withThree() {
        BottledPost post = Tapes.still();
        post.person(0, 9);
        post.person(4, 9);
        post.person(4, 3);
        return post;
    }

    private static void said() {
        BottledPost post = withThree();
        CHECK.due("none there", post.said(0, 1), -2);
        post.toss(0, 1, 9);
        CHECK.due("bottle 1", post.said(1, 1), -2);
        CHECK.due("bottle -2", post.said(-2, 1), -2);
        CHECK.due("comes -1", post.said(0, -1), -2);
        CHECK.due("comes 11", post.said(0, 11), -2);
        CHECK.due("0", post.said(0, 0), 1);
        CHECK.due("10", post.said(0, 10), 2);
        for (int i = 3; i <= 8; i++) CHECK.due("said", post.said(0, 5), i);
        CHECK.due("the 9th", post.said(0, 5), -2);
        CHECK.due("about", post.about(6), 8);
        CHECK.due("none any more", post.said(-1, 77), 0);
        CHECK.due("about", post.about(6), 0);
    }

    private static void whose() {
        BottledPost post = withThree();
        CHECK.due("no text", post.whose(), 0);
        Tapes.read(post, "comes 4;");
        Tapes.read(post, "wears 1;");
        Tapes.read(post, "comes cork/10;");
        Tapes.read(post, "comes 0-9+luck;");
        CHECK.due("nothing said", post.whose(), 15);
        post.toss(1, 2, 49);
        post.toss(1, 0, 40);
        post.said(0, 4);
        CHECK.due("4, luck and 1, cork / 10", post.whose(), 7);
        post.said(1, 4);
        CHECK.due("both", post.whose(), 5);
        post.tide(1);
        CHECK.due("as now", post.whose(), 1);
        post.undo();
        post.undo();
        CHECK.due("those not there any more aside", post.whose(), 7);
        CHECK.due("they are told yet", post.about(6), 2);
        post.undo();
        CHECK.due("none there", post.whose(), 15);
        post.toss(1, 0, 9);
        CHECK.due("there anew", post.whose(), 1);
        post.said(-1, 0);
        post.said(0, 0);
        CHECK.due("kept within the odds", post.whose(), 12);
        post.by(0);
        CHECK.due("whichever rules", post.whose(), 12);
    }

    private static void luckiest() {
        BottledPost post = withThree();
        CHECK.due("none", post.luckiest(), -1);
        post.person(0, 9);
        post.toss(1, 2, 9);
        // 7 is not below 4, 5 is not either, 2 is.
        post.tide(1);
        CHECK.due("none yet", post.luckiest(), -1);
        post.tide(1);
        post.tide(1);
        CHECK.due("2", post.luckiest(), 2);
        post.toss(2, 1, 9);
        post.tide(1);
        CHECK.due("of like ones the lowest", post.luckiest(), 1);
        post.toss(0, 3, 9);
        post.toss(0, 3, 9);
        post.tide(1);
        CHECK.due("most", post.luckiest(), 3);
        post.undo();
        CHECK.due("taken back", post.luckiest(), 1);
    }

    private static void eldest() {
        BottledPost post = withThree();
        CHECK.due("none", post.eldest(), -1);
        post.tide(1);
        post.toss(0, 1, 1);
        post.toss(0, 1, 5);
        post.toss(0, 1, 5);
        CHECK.due("of like ones the lowest", post.eldest(), 0);
        post.tide(1);
        CHECK.due("0 sank", post.eldest(), 1);
        post.person(0, 0);
        post.fish(1, 3);
        post.toss(0, 1, 50);
        CHECK.due("1 is kept", post.eldest(), 2);
        post.fish(2, 3);
        CHECK.due("2 too", post.eldest(), 3);
        post.tide(1);
        post.again(2);
        CHECK.due("tossed first", post.eldest(), 2);
        post.tide(20);
        CHECK.due("one is left", post.eldest(), 3);
        post.tide(30);
        CHECK.due("none is left", post.eldest(), -1);
    }

    private static void crowd() {
        BottledPost post = withThree();
        CHECK.due("none", post.crowd(), -1);
        post.toss(1, 0, 9);
        CHECK.due("one", post.crowd(), 4);
        post.toss(0, 1, 9);
        CHECK.due("of like ones the lowest", post.crowd(), 0);
        post.toss(1, 0, 9);
        CHECK.due("most", post.crowd(), 4);
        post.fish(0, 2);
        post.fish(2, 2);
        CHECK.due("kept ones aside", post.crowd(), 0);
        post.current(0, 0, 9);
        post.tide(1);
        CHECK.due("where it drifted", post.crowd(), 9);
        post.tide(10);
        CHECK.due("sunk ones aside", post.crowd(), -1);
    }

    private static void empty() {
        BottledPost post = withThree();
        CHECK.due("but 0 and 4", post.empty(), 1023 - 17);
        post.toss(0, 1, 2);
        post.current(0, 0, 9);
        CHECK.due("as it was", post.empty(), 1023 - 17);
        post.tide(1);
        CHECK.due("nor 9", post.empty(), 1023 - 17 - 512);
        post.tide(1);
        CHECK.due("what sank is not there", post.empty(), 1023 - 17);
    }

    private static void ledger() {
        BottledPost post = withThree();
        for (int what = 0; what < 3; what++) CHECK.due("none", post.ledger(what), 0);
        post.toss(1, 2, 9);
        post.fish(0, 2);
        post.again(0);
        post.toss(2, 1, 9);
        post.toss(0, 1, 1);
        post.toss(0, 1, 1);
        post.toss(0, 1, 1);
        // The first draw is 7, not below 4; the second 5, below 10.
        post.tide(1);
        CHECK.due("came", post.ledger(0), 1);
        CHECK.due("sank", post.ledger(1), 3);
        CHECK.due("fished", post.ledger(2), 1);
        CHECK.due("-1", post.ledger(-1), -2);
        CHECK.due("3", post.ledger(3), -2);
    }
}
