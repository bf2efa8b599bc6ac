/** Promises 46 to 48: the image, back to it, about. */
public final class ImageTest {
    private static final Check CHECK = new Check("ImageTest");

    public static void main(String[] args) {
        backToIt();
        stepsToo();
        sayingsToo();
        textsToo();
        about();
        CHECK.close();
    }

    private static void look(String when, BottledPost post) {
        int[] about = {2, 1, 0, 2, 1, 2, 1};
        for (int what = 0; what < 7; what++) CHECK.due(when + " about " + what, post.about(what), about[what]);
        CHECK.due(when + " tide", post.is(0), 1);
        CHECK.due(when + " x", post.is(1), 13085);
        CHECK.due(when + " told", post.told(2, 9), 1);
        CHECK.due(when + " cork", post.ofBottle(0, 3), 8);
        CHECK.due(when + " wears", post.ofBottle(0, 7), 1);
        CHECK.due(when + " comes", post.ofBottle(0, 6), 6);
        CHECK.due(when + " tossed", post.tossed(1), 3);
        CHECK.due(when + " odds", post.likely(1, 1, 1, false), 0);
        CHECK.due(when + " odds", post.likely(8, 1, 1, true), 10);
        CHECK.due(when + " clear", post.clear(1), 2);
        CHECK.due(when + " sorters", post.sorters(2), 2);
        CHECK.due(when + " orders", post.orders(3), 3);
        CHECK.due(when + " whose", post.whose(), 1);
    }

    private static void backToIt() {
        BottledPost post = new BottledPost();
        post.person(0, 0);
        post.person(1, 0);
        post.current(2, 9, 1);
        Tapes.read(post, "comes 6;");
        post.by(0);
        post.toss(0, 1, 9);
        post.tide(1);
        post.found(5, 2);
        post.found(-1, 0);
        post.found(6, 2);
        post.odds(3, 4);
        post.code(1);
        post.code(11);
        post.halves(0, 1);
        post.writes(2, 0);
        post.said(0, 6);
        CHECK.due("image", post.image(), 1);
        look("ahead", post);
        post.person(2, 2);
        post.current(2, 9, 2);
        Tapes.read(post, "wears 5;comes 1;");
        post.by(1);
        post.toss(1, 0, 9);
        post.years(7, 40);
        post.found(0, 1);
        post.found(0, 2);
        post.odds(10, 0);
        post.code(-1);
        post.halves(1, 2);
        post.halves(0, 2);
        post.writes(0, 1);
        post.writes(1, 2);
        post.said(-1, 0);
        Tapes.read(post, "x");
        Tapes.put(post, "tide 3;");
        CHECK.due("back", post.back(), 1);
        look("back", post);
        CHECK.due("the tape stays", post.about(7), 7);
        CHECK.due("the fault stays", post.fault(0), 1);
        CHECK.due("its place stays", post.fault(1), 0);
        CHECK.due("the tape can be read", post.text(), 1);
        post.undo();
        CHECK.due("back once more", post.back(), 1);
        look("once more", post);
        CHECK.due("sorters anew", post.sorters(3), 2);
    }

    private static void stepsToo() {
        BottledPost post = new BottledPost();
        post.person(0, 0);
        post.person(9, 0);
        post.toss(0, 1, 99);
        post.tide(5);
        CHECK.due("image", post.image(), 5);
        for (int i = 0; i < 3; i++) {
            post.tide(60);
            CHECK.due("thirty", post.about(3), 30);
            CHECK.due("back", post.back(), 5);
            CHECK.due("six", post.about(3), 6);
            CHECK.due("cork", post.ofBottle(0, 3), 94);
            CHECK.due("undo", post.undo(), 5);
            CHECK.due("four", post.is(0), 4);
            CHECK.due("cork ahead of it", post.ofBottle(0, 3), 95);
            post.undo();
            post.tide(2);
        }
        for (int i = 0; i < 5; i++) post.undo();
        CHECK.due("back", post.back(), 5);
        for (int i = 5; i >= 0; i--) CHECK.due("undo", post.undo(), i);
        CHECK.due("to the begin", post.is(3), 0);
        CHECK.due("no more", post.undo(), -1);
    }

    /** What was forgotten and told otherwise is as it was. */
    private static void sayingsToo() {
        BottledPost post = new BottledPost();
        post.person(0, 0);
        post.person(1, 0);
        post.toss(0, 1, 9);
        post.toss(1, 0, 9);
        Tapes.read(post, "comes 2+from;");
        post.found(5, 2);
        post.odds(3, 4);
        post.code(1);
        post.code(11);
        post.said(0, 2);
        post.said(1, 3);
        post.image();
        post.found(-1, 0);
        post.found(6, 3);
        post.odds(3, 0);
        post.code(-1);
        post.code(2);
        post.code(3);
        post.said(-1, 0);
        post.said(1, 2);
        post.said(0, 7);
        CHECK.due("whose otherwise", post.whose(), 0);
        post.back();
        CHECK.due("found", post.tossed(0), 22);
        // Of a still one there: 3 of 10, and 3 of the 3 of 10 that are afloat yet: 39 of 100.
        post.current(0, 1, 1);
        post.current(1, 1, 1);
        CHECK.due("odds", post.likely(1, 1, 2, false), 39);
        CHECK.due("codes", post.reads(11), 2);
        CHECK.due("whose", post.whose(), 1);
    }

    private static void textsToo() {
        BottledPost post = new BottledPost();
        post.person(0, 0);
        post.person(1, 0);
        post.toss(0, 1, 9);
        Tapes.read(post, "comes 2;");
        post.image();
        Tapes.read(post, "comes 3;");
        post.back();
        CHECK.due("one text", post.about(1), 1);
        CHECK.due("another one", Tapes.read(post, "comes 4;"), 1);
        post.by(1);
        CHECK.due("the new one rules", post.ofBottle(0, 6), 4);
        post.by(0);
        CHECK.due("the old one stays", post.ofBottle(0, 6), 2);
        post.back();
        CHECK.due("none rules", post.ofBottle(0, 6), 1);
        CHECK.due("none such", post.by(1), false);
        CHECK.due("nor played", post.played(1), -2);
    }

    private static void about() {
        BottledPost post = new BottledPost();
        CHECK.due("-1", post.about(-1), -2);
        CHECK.due("8", post.about(8), -2);
        post.feed(0, 0, 0, 0, 0);
        CHECK.due("bytes", post.about(7), 20);
        CHECK.due("image", post.image(), 0);
        post.end(3);
        post.back();
        CHECK.due("bytes stay", post.about(7), 3);
        post.tide(7);
        CHECK.due("another image", post.image(), 7);
        post.tide(1);
        CHECK.due("back to that", post.back(), 7);
        CHECK.due("it stays", post.back(), 7);
    }
}
