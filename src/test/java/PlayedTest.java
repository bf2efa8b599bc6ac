/** Promises 13 and 14: played by a text, and years of draws. */
public final class PlayedTest {
    private static final Check CHECK = new Check("PlayedTest");

    public static void main(String[] args) {
        plays();
        stops();
        tidesThatCanPass();
        years();
        yearsOfTides();
        yearsToOthers();
        CHECK.close();
    }

    private static void plays() {
        BottledPost post = new BottledPost();
        String text = "person 0 luck 9;comes 2;person 5 luck 8;current 1 from 1 to 5;toss 0 to 1 cork 9;"
            + "person 1 luck 0;tide 1;fish 0 by 2;wears 3;again 0;tide 1;";
        CHECK.due("read", Tapes.read(post, text), 0);
        CHECK.due("all is done", post.played(0), -1);
        CHECK.due("persons", post.about(0), 3);
        CHECK.due("told", post.told(1, 1), 5);
        CHECK.due("tide", post.is(0), 2);
        CHECK.due("steps", post.about(3), 5);
        // Its laws do not rule for that: 7 is below 9, and 2 is worn.
        CHECK.due("came", post.ofBottle(0, 4), 1);
        CHECK.due("cork", post.ofBottle(0, 3), 7);
        CHECK.due("none rules", post.about(2), -1);
        CHECK.due("lines", post.book(-1, 0), 2);
        CHECK.due("a step back", post.undo(), 4);
        CHECK.due("afloat", post.ofBottle(0, 4), 0);
        BottledPost other = new BottledPost();
        Tapes.read(other, "person 9 luck 0;person 2 luck 0;person 9 luck 5;current 2 from 9 to 0;current 1 from 0 to 7;"
            + "toss 1 to 0 cork 7;toss 0 to 1 cork 99;fish 1 by 2;again 1;fish 1 by 2;");
        CHECK.due("all is done", other.played(0), -1);
        CHECK.due("told", other.told(2, 9), 0);
        CHECK.due("told too", other.told(1, 0), 7);
        CHECK.due("FROM", other.ofBottle(0, 0), 1);
        CHECK.due("TO", other.ofBottle(0, 1), 0);
        CHECK.due("CORK", other.ofBottle(1, 3), 99);
        CHECK.due("kept by 2", other.ofBottle(1, 4), 5);
        CHECK.due("twice", other.ledger(2), 2);
        CHECK.due("text -1", post.played(-1), -2);
        CHECK.due("text 1", post.played(1), -2);
        CHECK.due("text 4", post.played(4), -2);
    }

    private static void stopped(String text, int clause) {
        BottledPost post = new BottledPost();
        post.person(0, 0);
        post.person(1, 0);
        CHECK.due("read " + text, Tapes.read(post, text), 0);
        CHECK.due(text, post.played(0), clause);
    }

    private static void stops() {
        stopped("comes 1;toss 0 to 1 cork 5;wears 1;fish 0 by 0;tide 3;", 3);
        stopped("toss 0 to 0 cork 5;", 0);
        stopped("toss 0 to 2 cork 5;", 0);
        stopped("wears 1;again 0;", 1);
        stopped("toss 0 to 1 cork 5;again 0;", 1);
        stopped("fish 11 by 5;", 0);
        stopped("person 1 luck 1;".repeat(5), 4);
        stopped("tide 60;".repeat(24), -1);
        stopped("toss 0 to 1 cork 5;".repeat(13), 12);
        BottledPost post = new BottledPost();
        Tapes.read(post, "person 1 luck 1;person 2 luck 2;toss 0 to 1 cork 3;tide 2;fish 0 by 0;tide 5;");
        CHECK.due("the clause", post.played(0), 4);
        CHECK.due("what was done stays", post.is(0), 2);
        CHECK.due("the toss too", post.is(3), 1);
        CHECK.due("steps", post.about(3), 3);
    }

    private static void tidesThatCanPass() {
        BottledPost post = new BottledPost();
        for (int i = 0; i < 166; i++) post.tide(60);
        Tapes.read(post, "tide 30;tide 10;person 0 luck 0;");
        CHECK.due("the second one can't", post.played(0), 1);
        CHECK.due("but nine of it", post.is(0), 9999);
        CHECK.due("no person", post.about(0), 0);
        post.undo();
        CHECK.due("each is a step", post.is(0), 9998);
        Tapes.read(post, "tide 1;person 0 luck 0;tide 1;");
        CHECK.due("one can", post.played(1), 2);
        CHECK.due("a person", post.about(0), 1);
    }

    private static BottledPost withThree() {
        BottledPost post = new BottledPost();
        post.person(0, 0);
        post.person(4, 0);
        post.person(8, 0);
        return post;
    }

    /** By seed 0 x is 227, 13085, 27682: tides; then 16759: 1 tosses to 0 with cork 20; then 5724. */
    private static void years() {
        BottledPost post = withThree();
        CHECK.due("tide", post.years(0, 4), 3);
        CHECK.due("x", post.is(1), 5724);
        int[] of = {1, 0, 4, 20, 0, 3};
        for (int what = 0; what < 6; what++) CHECK.due("of it " + what, post.ofBottle(0, what), of[what]);
        CHECK.due("one step", post.about(3), 1);
        CHECK.due("back", post.undo(), 0);
        CHECK.due("tide", post.is(0), 0);
        CHECK.due("x", post.is(1), 227);
        CHECK.due("bottles", post.is(3), 0);
        // 231 by seed 2 has kind 3: 231 mod 2 is BOTTLE 1.
        post.person(4, 0);
        post.toss(1, 2, 5);
        post.toss(1, 2, 5);
        post.fish(0, 3);
        post.fish(1, 3);
        CHECK.due("again", post.years(2, 1), 0);
        CHECK.due("0 is kept", post.ofBottle(0, 4), 6);
        CHECK.due("1 is afloat", post.ofBottle(1, 4), 0);
        CHECK.due("x", post.is(1), 14929);
        // 14929 has kind 1: 14929 mod 4 is 1, 2488 mod 4 is 0; 1 + 14929 mod 30 is 20.
        post.years(2, 2);
        CHECK.due("FROM", post.ofBottle(2, 0), 1);
        CHECK.due("TO", post.ofBottle(2, 1), 0);
        CHECK.due("CORK", post.ofBottle(2, 3), 20);
    }

    private static int next(int x) {
        return (x * 461 + 349) % 30637;
    }

    /** A seed whose second x has kind 2, which fishes; the first one has kind 1, 3 or 5, as it is odd. */
    private static void yearsOfTides() {
        for (int seed = 0; seed < 10000; seed++) {
            int first = seed * 2 + 227;
            int x = next(first);
            if (first % 6 != 3 || x % 6 != 2 || x / 6 % 2 != 1) continue;
            BottledPost post = new BottledPost();
            post.person(3, 0);
            post.person(3, 0);
            CHECK.due("no bottle", post.years(seed, 2), 0);
            CHECK.due("a step", post.about(3), 1);
            CHECK.due("x", post.is(1), next(x));
            post.toss(0, 1, 50);
            post.years(seed, 2);
            CHECK.due("fished by 1", post.ofBottle(0, 4), 4);
            CHECK.due("written", post.book(-1, 0), 1);
            CHECK.due("one step", post.about(3), 3);
            post.years(seed, 1);
            CHECK.due("tossed again", post.ofBottle(0, 4), 0);
            return;
        }
        CHECK.due("a seed", 0, 1);
    }

    private static void yearsToOthers() {
        BottledPost post = new BottledPost();
        CHECK.due("seed -1", post.years(-1, 1), -1);
        CHECK.due("seed 10000", post.years(10000, 1), -1);
        CHECK.due("n 0", post.years(0, 0), -1);
        CHECK.due("n 41", post.years(0, 41), -1);
        CHECK.due("no step", post.about(3), 0);
        CHECK.due("x stays", post.is(1), 227);
        CHECK.due("nobody there", post.years(9999, 40), post.is(0));
        CHECK.due("a step", post.about(3), 1);
        CHECK.due("seed 9999", post.years(9999, 1), post.is(0));
        CHECK.due("x", post.is(1), next(20225));
        BottledPost one = new BottledPost();
        one.person(0, 0);
        for (int seed = 0; seed < 100; seed++) one.years(seed, 40);
        CHECK.due("nobody to toss to", one.is(3), 0);
    }
}
