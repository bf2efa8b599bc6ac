/** Promises 21 to 27: foretold, ends, drift, soonest, relay, where from. */
public final class ForetoldTest {
    private static final Check CHECK = new Check("ForetoldTest");

    public static void main(String[] args) {
        foretold();
        ends();
        drift();
        soonest();
        relay();
        relayTies();
        relayBounds();
        relayLegs();
        whereFrom();
        CHECK.close();
    }

    private static void foretold() {
        BottledPost post = new BottledPost();
        post.person(0, 9);
        post.person(1, 9);
        post.toss(0, 1, 3);
        post.toss(0, 1, 60);
        post.toss(1, 0, 2);
        Tapes.read(post, "comes 6;");
        post.by(0);
        int[][] behind = {{1, 2, 0}, {4, 1, 0}, {4, 0, 2}, {4, 0, 2}};
        for (int n = 1; n <= 4; n++) {
            for (int what = 0; what < 3; what++) {
                CHECK.due("bottle 0 behind " + n, post.foretold(n, 0, what), behind[n - 1][what]);
            }
        }
        // 7 is not below 6 for the first one; 5 is for the second.
        CHECK.due("the second comes", post.foretold(1, 1, 2), 1);
        CHECK.due("it keeps its cork", post.foretold(60, 1, 1), 59);
        CHECK.due("it stays there", post.foretold(60, 1, 0), 1);
        CHECK.due("nothing is done", post.is(0), 0);
        CHECK.due("no draw", post.is(1), 227);
        CHECK.due("no line", post.book(-1, 0), 0);
        CHECK.due("no step", post.about(3), 3);
        post.person(0, 0);
        post.fish(0, 2);
        CHECK.due("a kept one stays so", post.foretold(9, 0, 2), 5);
        CHECK.due("and there", post.foretold(9, 0, 0), 0);
        CHECK.due("n 0", post.foretold(0, 0, 0), -1);
        CHECK.due("n 61", post.foretold(61, 0, 0), -1);
        CHECK.due("bottle 3", post.foretold(1, 3, 0), -1);
        CHECK.due("bottle -1", post.foretold(1, -1, 0), -1);
        CHECK.due("what 3", post.foretold(1, 0, 3), -1);
        CHECK.due("what -1", post.foretold(1, 0, -1), -1);
    }

    private static void ends() {
        BottledPost post = Tapes.still();
        post.person(0, 9);
        post.person(1, 9);
        post.person(0, 9);
        post.toss(0, 1, 1);
        post.toss(0, 1, 60);
        post.toss(0, 1, 61);
        post.toss(0, 2, 60);
        CHECK.due("sinks at once", post.ends(0), 1);
        CHECK.due("in 60", post.ends(1), 60);
        CHECK.due("never", post.ends(2), -1);
        CHECK.due("comes", post.ends(3), 1);
        post.fish(1, 2);
        CHECK.due("kept", post.ends(1), -1);
        post.tide(1);
        CHECK.due("in 60 now", post.ends(2), 60);
        CHECK.due("sunk", post.ends(0), -1);
        CHECK.due("none such", post.ends(4), -1);
        CHECK.due("-1", post.ends(-1), -1);
        BottledPost late = Tapes.still();
        late.person(0, 9);
        late.person(1, 9);
        for (int i = 0; i < 166; i++) late.tide(60);
        late.tide(35);
        late.toss(0, 1, 4);
        late.toss(0, 1, 5);
        CHECK.due("just yet", late.ends(0), 4);
        CHECK.due("no more", late.ends(1), -1);
        CHECK.due("behind those that can pass", late.foretold(60, 1, 1), 1);
        CHECK.due("drift knows no end", late.drift(0, 60), 0);
    }

    private static void drift() {
        BottledPost post = new BottledPost();
        CHECK.due("0", post.drift(7, 0), 7);
        CHECK.due("60 are 80 places on", post.drift(7, 60), 7);
        CHECK.due("59", post.drift(7, 59), 7);
        CHECK.due("58", post.drift(7, 58), 4);
        post.tide(1);
        CHECK.due("from now on", post.drift(0, 1), 3);
        CHECK.due("two", post.drift(0, 2), 3);
        CHECK.due("three", post.drift(9, 3), 3);
        CHECK.due("-1", post.drift(0, -1), -1);
        CHECK.due("61", post.drift(0, 61), -1);
        CHECK.due("place -1", post.drift(-1, 1), -1);
        CHECK.due("place 10", post.drift(10, 1), -1);
    }

    private static void soonest() {
        BottledPost post = new BottledPost();
        post.person(0, 0);
        post.person(4, 0);
        post.person(0, 0);
        post.person(9, 0);
        CHECK.due("0 to 1", post.soonest(0, 1, 0), 2);
        CHECK.due("0 to 0: waits for 2", post.soonest(0, 0, 0), 3);
        CHECK.due("it waits", post.soonest(0, 0, 1), 2);
        CHECK.due("to another there", post.soonest(0, 2, 0), 3);
        // From 0: by 0 1, by 1 4, 4, 5, 8, 8, 9.
        CHECK.due("0 to 3", post.soonest(0, 3, 0), 7);
        CHECK.due("at once", post.soonest(0, 3, 1), 0);
        post.tide(2);
        CHECK.due("0 to 1 now", post.soonest(0, 1, 0), 3);
        CHECK.due("of like ones the least wait", post.soonest(0, 1, 1), 0);
        CHECK.due("0 to 0 now", post.soonest(0, 0, 0), 1);
        CHECK.due("no step", post.about(3), 2);
        int[][] others = {{-1, 0, 0}, {0, -1, 0}, {4, 0, 0}, {0, 4, 0}, {0, 1, -1}, {0, 1, 2}};
        for (int[] other : others) CHECK.due("others", post.soonest(other[0], other[1], other[2]), -1);
        BottledPost still = Tapes.still();
        still.person(0, 0);
        still.person(1, 0);
        CHECK.due("never", still.soonest(0, 1, 0), -1);
        CHECK.due("never, what 1", still.soonest(0, 1, 1), -1);
        // By 2 alone from 0 to 1.
        still.current(2, 0, 1);
        CHECK.due("when it goes", still.soonest(0, 1, 0), 3);
        CHECK.due("tossed at once", still.soonest(0, 1, 1), 0);
        // From 0 by 1 to a place without an end; by 2 to the other one: it must wait.
        still.current(0, 0, 5);
        still.current(1, 0, 5);
        CHECK.due("it must wait", still.soonest(0, 1, 1), 2);
        CHECK.due("three", still.soonest(0, 1, 0), 3);
        BottledPost ring = Tapes.still();
        ring.person(0, 0);
        ring.person(9, 0);
        // One place on by 0 alone: 9 places in 1 + 8 * 3 tides.
        for (int place = 0; place < 9; place++) ring.current(0, place, place + 1);
        CHECK.due("long", ring.soonest(0, 1, 0), 25);
        ring.tide(1);
        CHECK.due("longer", ring.soonest(0, 1, 0), 27);
    }

    /** 0 leads to 1 by 0 and 1 back by 1; by 2 alone 1 leads to 2: no bottle gets there that nobody keeps. */
    private static BottledPost islands() {
        BottledPost post = Tapes.still();
        post.current(0, 0, 1);
        post.current(1, 1, 0);
        post.current(2, 1, 2);
        post.person(0, 0);
        post.person(2, 0);
        return post;
    }

    private static void relay() {
        BottledPost post = islands();
        CHECK.due("never", post.relay(0, 1, -1), -2);
        CHECK.due("never, i 0", post.relay(0, 1, 0), -2);
        post.person(1, 0);
        post.person(1, 0);
        CHECK.due("by another", post.relay(0, 1, -1), 3);
        CHECK.due("the lowest", post.relay(0, 1, 0), 2);
        CHECK.due("just one", post.relay(0, 1, 1), -2);
        CHECK.due("i -2", post.relay(0, 1, -2), -2);
        CHECK.due("soonest knows no relay", post.soonest(0, 1, 0), -1);
        post.tide(1);
        CHECK.due("from now on", post.relay(0, 1, -1), 5);
        CHECK.due("back never", post.relay(1, 0, -1), -2);
        CHECK.due("to itself", post.relay(0, 0, -1), -2);
        CHECK.due("from -1", post.relay(-1, 0, -1), -2);
        CHECK.due("from 4", post.relay(4, 0, -1), -2);
        CHECK.due("to 4", post.relay(0, 4, -1), -2);
        CHECK.due("to -1", post.relay(0, -1, -1), -2);
        CHECK.due("direct", post.relay(0, 2, -1), 3);
        CHECK.due("direct has none between", post.relay(0, 2, 0), -2);
    }

    /** A way direct is as fast as one by others: the fewest between count. */
    private static void relayTies() {
        BottledPost post = Tapes.still();
        for (int tide = 0; tide < 3; tide++) for (int place = 0; place < 9; place++) post.current(tide, place, place + 1);
        post.person(0, 0);
        post.person(5, 0);
        post.person(3, 0);
        CHECK.due("direct", post.relay(0, 1, -1), 5);
        CHECK.due("none between", post.relay(0, 1, 0), -2);
        // Place 4 is a trap but for who waits for tide 2; 2 and 5 stand there, 3 and 4 ahead of it.
        BottledPost trap = Tapes.still();
        trap.person(0, 0);
        trap.person(9, 0);
        trap.person(4, 0);
        trap.person(2, 0);
        trap.person(2, 0);
        trap.current(0, 0, 2);
        trap.current(1, 2, 0);
        trap.current(2, 2, 4);
        trap.current(0, 4, 9);
        trap.current(1, 4, 2);
        CHECK.due("by one", trap.relay(0, 1, -1), 4);
        CHECK.due("the lowest that can", trap.relay(0, 1, 0), 3);
        CHECK.due("no second", trap.relay(0, 1, 1), -2);
    }

    private static void relayBounds() {
        BottledPost post = Tapes.still();
        // One place on by 0 alone: 9 places take 25 tides, more than one leg may.
        for (int place = 0; place < 9; place++) post.current(0, place, place + 1);
        post.person(0, 0);
        post.person(9, 0);
        post.person(6, 0);
        post.person(3, 0);
        post.person(7, 0);
        // Each of the three lets it be there behind 25: the lowest one.
        CHECK.due("by one", post.relay(0, 1, -1), 25);
        CHECK.due("the lowest", post.relay(0, 1, 0), 2);
        CHECK.due("by no other", post.relay(0, 1, 1), -2);
        CHECK.due("a leg of 19", post.relay(0, 4, -1), 19);
        CHECK.due("by nobody", post.relay(0, 4, 0), -2);
        BottledPost far = Tapes.still();
        for (int place = 0; place < 9; place++) far.current(0, place, place + 1);
        far.person(0, 0);
        far.person(9, 0);
        far.person(9, 0);
        far.current(0, 9, 0);
        CHECK.due("around", far.relay(1, 0, -1), 1);
        CHECK.due("kept for one, then it stays there", far.relay(1, 2, -1), 2);
        CHECK.due("too far for all", far.relay(0, 1, -1), -2);
        BottledPost way = Tapes.still();
        way.person(0, 0);
        way.person(9, 0);
        way.person(4, 0);
        for (int place = 0; place < 9; place++) way.current(0, place, place + 1);
        way.current(1, 4, 0);
        // At 4 behind 10 tides, kept for two, then 13 more; a bottle alone goes back to 0 from there.
        CHECK.due("by 2", way.relay(0, 1, -1), 25);
        CHECK.due("it is 2", way.relay(0, 1, 0), 2);
    }

    /** From 0 by 2 alone, and so on to 7 behind 19; the last one is by 0 behind 20, or by 1 behind 21. */
    private static void relayLegs() {
        for (int last = 0; last <= 1; last++) {
            BottledPost post = Tapes.still();
            post.person(0, 0);
            post.person(8, 0);
            post.current(0, 0, 9);
            post.current(1, 0, 9);
            for (int place = 0; place < 7; place++) post.current(2, place, place + 1);
            post.current(last, 7, 8);
            CHECK.due("soonest by " + last, post.soonest(0, 1, 0), 22 + last);
            CHECK.due("relay by " + last, post.relay(0, 1, -1), last == 0 ? 22 : -2);
        }
    }

    private static void whereFrom() {
        BottledPost post = new BottledPost();
        CHECK.due("all", post.tossed(0), 1023);
        CHECK.due("thirty", post.tossed(1), 30);
        CHECK.due("found", post.found(5, 2), 1);
        CHECK.due("places", post.tossed(0), 22);
        CHECK.due("ways", post.tossed(1), 3);
        CHECK.due("found too", post.found(6, 3), 2);
        CHECK.due("not from now on", post.tide(1), 0);
        CHECK.due("places", post.tossed(0), 4);
        CHECK.due("ways", post.tossed(1), 1);
        CHECK.due("none such", post.found(0, 1), 3);
        CHECK.due("no place", post.tossed(0), 0);
        CHECK.due("no way", post.tossed(1), 0);
        CHECK.due("place 10", post.found(10, 1), -2);
        CHECK.due("place -2", post.found(-2, 1), -2);
        CHECK.due("n 0", post.found(0, 0), -2);
        CHECK.due("n 61", post.found(0, 61), -2);
        CHECK.due("the same once more", post.found(0, 1), 4);
        post.found(0, 60);
        CHECK.due("the 6th", post.found(0, 60), 6);
        CHECK.due("the 7th", post.found(0, 60), -2);
        CHECK.due("about", post.about(4), 6);
        CHECK.due("what -1", post.tossed(-1), -1);
        CHECK.due("what 2", post.tossed(2), -1);
        CHECK.due("forgets", post.found(-1, 99), 0);
        CHECK.due("about", post.about(4), 0);
        CHECK.due("all again", post.tossed(1), 30);
    }
}
