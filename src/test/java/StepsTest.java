/** Promises 9 to 12, 15, 17, 19 and 20: bottles, tides, the book, and steps taken back. */
public final class StepsTest {
    private static final Check CHECK = new Check("StepsTest");

    public static void main(String[] args) {
        tosses();
        fishes();
        draws();
        sinks();
        oneBehindTheOther();
        tides();
        takesBack();
        theBook();
        answersToOthers();
        CHECK.close();
    }

    private static BottledPost withThree() {
        BottledPost post = new BottledPost();
        post.person(0, 0);
        post.person(4, 9);
        post.person(0, 3);
        return post;
    }

    private static void tosses() {
        BottledPost post = withThree();
        post.tide(2);
        int[][] others = {{-1, 0, 5}, {3, 0, 5}, {0, 3, 5}, {0, -1, 5}, {1, 1, 5}, {0, 1, 0}, {0, 1, 100}, {0, 1, -5}};
        for (int[] other : others) CHECK.due("others", post.toss(other[0], other[1], other[2]), -1);
        CHECK.due("nothing done", post.about(3), 2);
        CHECK.due("toss", post.toss(1, 2, 99), 0);
        int[] of = {1, 2, 4, 99, 0, 2, 4, 1};
        for (int what = 0; what < 8; what++) CHECK.due("of it " + what, post.ofBottle(0, what), of[what]);
        CHECK.due("a step", post.about(3), 3);
        for (int i = 1; i < 12; i++) CHECK.due("the next", post.toss(0, 1, 1), i);
        CHECK.due("the 13th", post.toss(0, 1, 1), -1);
        CHECK.due("bottles", post.is(3), 12);
        CHECK.due("afloat", post.is(2), 4095);
        CHECK.due("steps", post.about(3), 14);
        CHECK.due("no writing", post.book(-1, 0), 0);
    }

    private static void fishes() {
        BottledPost post = withThree();
        post.toss(0, 2, 9);
        CHECK.due("by FROM", post.fish(0, 0), false);
        CHECK.due("from elsewhere", post.fish(0, 1), false);
        CHECK.due("no such person", post.fish(0, 3), false);
        CHECK.due("person -1", post.fish(0, -1), false);
        CHECK.due("no such bottle", post.fish(1, 2), false);
        CHECK.due("bottle -1", post.fish(-1, 2), false);
        CHECK.due("afloat can't be tossed again", post.again(0), false);
        CHECK.due("by TO", post.fish(0, 2), true);
        CHECK.due("kept by 2", post.ofBottle(0, 4), 5);
        CHECK.due("bits", post.of(2, 3), 1);
        CHECK.due("not afloat", post.is(2), 0);
        CHECK.due("once", post.fish(0, 2), false);
        post.tide(1);
        CHECK.due("it stays", post.ofBottle(0, 2), 0);
        CHECK.due("its cork too", post.ofBottle(0, 3), 9);
        CHECK.due("again", post.again(0), true);
        CHECK.due("once more", post.again(0), false);
        CHECK.due("afloat", post.ofBottle(0, 4), 0);
        CHECK.due("tossed first", post.ofBottle(0, 5), 0);
        CHECK.due("no such bottle", post.again(1), false);
        CHECK.due("bottle -1", post.again(-1), false);
        // By 1 from 0 to 3, by 2 it stays, by 0 to 4.
        post.tide(3);
        CHECK.due("drifted", post.ofBottle(0, 2), 4);
        CHECK.due("by another", post.fish(0, 1), true);
        post.again(0);
        CHECK.due("AT that one's place", post.ofBottle(0, 2), 4);
        int[] line = {4, 0, 2, 4};
        for (int what = 0; what < 4; what++) CHECK.due("line " + what, post.book(1, what), line[what]);
        CHECK.due("steps", post.about(3), 9);
    }

    /** The first draw is 7 of 10, the next ones are 5 and 2. */
    private static void draws() {
        for (int luck = 0; luck < 10; luck++) {
            BottledPost post = new BottledPost();
            post.person(0, 0);
            post.person(1, luck);
            post.toss(0, 1, 9);
            CHECK.due("comes now", post.ofBottle(0, 6), luck + 1);
            CHECK.due("with luck " + luck, post.tide(1), luck >= 7 ? 1 : 0);
            CHECK.due("how", post.ofBottle(0, 4), luck >= 7 ? 1 : 0);
            CHECK.due("x", post.is(1), 13085);
            CHECK.due("lines", post.book(-1, 0), luck >= 7 ? 1 : 0);
        }
        BottledPost post = Tapes.still();
        post.person(0, 0);
        post.person(0, 5);
        for (int i = 0; i < 3; i++) post.toss(0, 1, 50);
        CHECK.due("7, 5, 2 of 10 with 6", post.tide(1), 2);
        CHECK.due("afloat yet", post.is(2), 1);
        CHECK.due("x", post.is(1), 16759);
        int[] line = {0, 1, 0, 0};
        for (int what = 0; what < 4; what++) CHECK.due("line " + what, post.book(0, what), line[what]);
    }

    private static void sinks() {
        BottledPost post = new BottledPost();
        post.person(0, 0);
        post.person(1, 9);
        post.toss(0, 1, 1);
        post.toss(0, 1, 2);
        CHECK.due("one comes", post.tide(1), 1);
        CHECK.due("cork 0", post.ofBottle(0, 3), 0);
        CHECK.due("sunk", post.ofBottle(0, 4), 2);
        CHECK.due("the other one came", post.ofBottle(1, 4), 1);
        CHECK.due("a draw for one only", post.is(1), 13085);
        int[] line = {0, 0, 1, 1};
        for (int what = 0; what < 4; what++) CHECK.due("line " + what, post.book(0, what), line[what]);
        CHECK.due("the next line", post.book(1, 1), 1);
        post.tide(1);
        CHECK.due("it drifts no more", post.ofBottle(0, 2), 1);
        CHECK.due("sunk can't be tossed again", post.again(0), false);
        CHECK.due("come can't be tossed again", post.again(1), false);
        CHECK.due("sunk can't be fished", post.fish(0, 1), false);
        CHECK.due("come can't be fished", post.fish(1, 1), false);
    }

    /** Each one's laws see the earlier ones where they went, the later ones where they were. */
    private static void oneBehindTheOther() {
        BottledPost post = new BottledPost();
        post.person(0, 0);
        post.person(1, 9);
        Tapes.read(post, "comes near*3+2;wears cork/2-tide;");
        post.by(0);
        post.toss(0, 1, 40);
        post.toss(0, 1, 40);
        CHECK.due("near is two there", post.ofBottle(0, 6), 8);
        // The first is alone at 1: 7 is not below 5. The second sees it there: 5 is below 8.
        CHECK.due("one comes", post.tide(1), 1);
        CHECK.due("the first one does not", post.is(2), 1);
        CHECK.due("cork by the law", post.ofBottle(0, 3), 20);
        post.tide(1);
        CHECK.due("the law has this tide", post.ofBottle(0, 3), 11);
        CHECK.due("wears now", post.ofBottle(0, 7), 3);
        BottledPost at = new BottledPost();
        at.person(0, 0);
        at.person(9, 0);
        Tapes.read(at, "wears at*10;");
        at.by(0);
        at.toss(0, 1, 99);
        at.tide(1);
        CHECK.due("worn where it drifted to", at.ofBottle(0, 3), 89);
        BottledPost cork = new BottledPost();
        cork.person(0, 0);
        cork.person(1, 0);
        Tapes.read(cork, "comes cork;wears 2;");
        cork.by(0);
        cork.toss(0, 1, 9);
        CHECK.due("comes by what the cork is then", cork.tide(1), 0);
        cork.undo();
        cork.undo();
        cork.toss(0, 1, 10);
        CHECK.due("with one more", cork.tide(1), 1);
    }

    private static void tides() {
        BottledPost post = withThree();
        CHECK.due("0", post.tide(0), -1);
        CHECK.due("-1", post.tide(-1), -1);
        CHECK.due("61", post.tide(61), -1);
        CHECK.due("none passed", post.is(0), 0);
        for (int i = 0; i < 166; i++) post.tide(60);
        CHECK.due("9960", post.is(0), 9960);
        CHECK.due("beyond", post.tide(40), -1);
        CHECK.due("nothing done", post.is(0), 9960);
        CHECK.due("to the end", post.tide(39), 0);
        CHECK.due("9999", post.is(0), 9999);
        CHECK.due("no more", post.tide(1), -1);
        CHECK.due("toss at the end", post.toss(0, 1, 1), 0);
        CHECK.due("since", post.ofBottle(0, 5), 9999);
        CHECK.due("foretold, none can pass", post.foretold(1, 0, 2), 0);
        CHECK.due("foretold cork", post.foretold(60, 0, 1), 1);
        CHECK.due("ends never", post.ends(0), -1);
        CHECK.due("years pass none", post.years(0, 2), 9999);
        post.undo();
        post.undo();
        CHECK.due("one back", post.undo(), 27);
        CHECK.due("9998", post.is(0), 9998);
    }

    private static void takesBack() {
        BottledPost post = withThree();
        CHECK.due("nothing yet", post.undo(), -1);
        post.toss(0, 1, 9);
        post.fish(0, 2);
        post.again(0);
        post.tide(3);
        post.years(5, 10);
        CHECK.due("steps", post.about(3), 7);
        post.person(7, 7);
        post.current(0, 0, 9);
        CHECK.due("years are one", post.undo(), 6);
        CHECK.due("tide", post.is(0), 3);
        CHECK.due("x", post.is(1), 13085);
        CHECK.due("come", post.ofBottle(0, 4), 1);
        CHECK.due("a tide", post.undo(), 5);
        CHECK.due("a tide", post.undo(), 4);
        CHECK.due("x ahead of it", post.is(1), 227);
        CHECK.due("a tide", post.undo(), 3);
        CHECK.due("at", post.ofBottle(0, 2), 0);
        CHECK.due("cork", post.ofBottle(0, 3), 9);
        CHECK.due("again", post.undo(), 2);
        CHECK.due("kept", post.ofBottle(0, 4), 5);
        CHECK.due("in the book", post.book(-1, 0), 1);
        CHECK.due("fish", post.undo(), 1);
        CHECK.due("afloat", post.ofBottle(0, 4), 0);
        CHECK.due("not in the book", post.book(-1, 0), 0);
        CHECK.due("toss", post.undo(), 0);
        CHECK.due("no bottle", post.is(3), 0);
        CHECK.due("nothing more", post.undo(), -1);
        CHECK.due("persons stay", post.about(0), 4);
        CHECK.due("currents stay", post.told(0, 0), 9);
        post.tide(40);
        CHECK.due("the latest 30", post.about(3), 30);
        for (int i = 29; i >= 0; i--) CHECK.due("undo " + i, post.undo(), i);
        CHECK.due("no more", post.undo(), -1);
        CHECK.due("ten stay", post.is(0), 10);
    }

    private static void theBook() {
        BottledPost post = Tapes.still();
        post.person(0, 0);
        post.person(5, 0);
        post.person(0, 0);
        post.toss(0, 1, 99);
        for (int i = 0; i < 35; i++) {
            post.fish(0, 2);
            post.again(0);
            post.tide(1);
            CHECK.due("lines", post.book(-1, 77), Math.min(30, i + 1));
        }
        CHECK.due("the eldest", post.book(0, 0), 5);
        CHECK.due("the latest", post.book(29, 0), 34);
        CHECK.due("ledger", post.ledger(2), 30);
        post.undo();
        post.undo();
        post.undo();
        CHECK.due("the one that was gone is there", post.book(0, 0), 4);
        CHECK.due("30 as ahead", post.book(-1, 0), 30);
        CHECK.due("the latest then", post.book(29, 0), 33);
    }

    private static void answersToOthers() {
        BottledPost post = withThree();
        post.toss(0, 1, 9);
        post.fish(0, 2);
        CHECK.due("what -1", post.ofBottle(0, -1), -2);
        CHECK.due("what 8", post.ofBottle(0, 8), -2);
        CHECK.due("bottle -1", post.ofBottle(-1, 0), -2);
        CHECK.due("bottle 1", post.ofBottle(1, 0), -2);
        CHECK.due("bottle 12", post.ofBottle(12, 0), -2);
        CHECK.due("is -1", post.is(-1), -2);
        CHECK.due("is 4", post.is(4), -2);
        CHECK.due("book -2", post.book(-2, 0), -2);
        CHECK.due("book 1", post.book(1, 0), -2);
        CHECK.due("book what -1", post.book(0, -1), -2);
        CHECK.due("book what 4", post.book(0, 4), -2);
        CHECK.due("is 0", post.is(0), 0);
        CHECK.due("is 3", post.is(3), 1);
    }
}
