/** Promises 1 to 3, 16 and 18: a new object, persons, currents. */
public final class ShoreTest {
    private static final Check CHECK = new Check("ShoreTest");

    public static void main(String[] args) {
        aNewObject();
        persons();
        currents();
        ofPersons();
        CHECK.close();
    }

    private static void aNewObject() {
        BottledPost post = new BottledPost();
        CHECK.due("NONE", BottledPost.NONE, -1);
        int[] is = {0, 227, 0, 0};
        for (int what = 0; what < 4; what++) CHECK.due("is " + what, post.is(what), is[what]);
        int[] about = {0, 0, -1, 0, 0, 0, 0, 0};
        for (int what = 0; what < 8; what++) CHECK.due("about " + what, post.about(what), about[what]);
        for (int place = 0; place < 10; place++) {
            CHECK.due("told by 0", post.told(0, place), (place + 1) % 10);
            CHECK.due("told by 1", post.told(1, place), (place + 3) % 10);
            CHECK.due("told by 2", post.told(2, place), place);
        }
        CHECK.due("empty", post.empty(), 1023);
        CHECK.due("book", post.book(-1, 0), 0);
        CHECK.due("fault 0", post.fault(0), -1);
        CHECK.due("fault 1", post.fault(1), -1);
        CHECK.due("undo", post.undo(), -1);
        post.person(1, 1);
        post.tide(5);
        CHECK.due("back to the new one", post.back(), 0);
        CHECK.due("no person then", post.about(0), 0);
    }

    private static void persons() {
        BottledPost post = new BottledPost();
        CHECK.due("place -1", post.person(-1, 0), -1);
        CHECK.due("place 10", post.person(10, 0), -1);
        CHECK.due("luck -1", post.person(0, -1), -1);
        CHECK.due("luck 10", post.person(0, 10), -1);
        CHECK.due("far", post.person(Integer.MIN_VALUE, Integer.MAX_VALUE), -1);
        CHECK.due("still none", post.about(0), 0);
        for (int i = 0; i < 6; i++) CHECK.due("person " + i, post.person(i == 0 ? 9 : i, i == 0 ? 9 : 0), i);
        CHECK.due("the 7th", post.person(0, 0), -1);
        CHECK.due("six", post.about(0), 6);
        CHECK.due("place of 0", post.of(0, 0), 9);
        CHECK.due("luck of 0", post.of(0, 1), 9);
        CHECK.due("place of 5", post.of(5, 0), 5);
    }

    private static void currents() {
        BottledPost post = new BottledPost();
        CHECK.due("current", post.current(2, 9, 0), true);
        CHECK.due("told", post.told(2, 9), 0);
        CHECK.due("the other one stays", post.told(1, 9), 2);
        int[][] others = {{-1, 0, 0}, {3, 0, 0}, {0, -1, 0}, {0, 10, 0}, {0, 0, -1}, {0, 0, 10}};
        for (int[] other : others) CHECK.due("others", post.current(other[0], other[1], other[2]), false);
        CHECK.due("as it was", post.told(0, 0), 1);
        CHECK.due("told -1", post.told(-1, 0), -1);
        CHECK.due("told 3", post.told(3, 0), -1);
        CHECK.due("told from -1", post.told(0, -1), -1);
        CHECK.due("told from 10", post.told(0, 10), -1);
        CHECK.due("no step", post.about(3), 0);
        post.person(9, 0);
        post.person(5, 0);
        post.toss(0, 1, 9);
        post.tide(3);
        // 9 to 0 by 0, 0 to 3 by 1, 3 to 3 by 2
        CHECK.due("led", post.ofBottle(0, 2), 3);
    }

    private static void ofPersons() {
        BottledPost post = Tapes.still();
        post.person(2, 9);
        post.person(2, 3);
        post.person(2, 0);
        CHECK.due("none came", post.of(0, 2), 0);
        CHECK.due("keeps none", post.of(0, 3), 0);
        post.toss(1, 0, 9);
        post.toss(2, 0, 9);
        post.toss(0, 2, 9);
        post.toss(0, 1, 9);
        post.fish(2, 1);
        post.fish(3, 1);
        CHECK.due("keeps two", post.of(1, 3), 12);
        CHECK.due("another keeps none", post.of(2, 3), 0);
        post.tide(1);
        CHECK.due("two came", post.of(0, 2), 2);
        CHECK.due("none to another", post.of(1, 2), 0);
        CHECK.due("what -1", post.of(0, -1), -1);
        CHECK.due("what 4", post.of(0, 4), -1);
        CHECK.due("person -1", post.of(-1, 0), -1);
        CHECK.due("person 3", post.of(3, 0), -1);
    }
}
