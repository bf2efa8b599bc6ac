/** Promises 4 to 8: the tape, texts, faults by the table in FaultTest, the text that rules. */
public final class TapeTest {
    private static final Check CHECK = new Check("TapeTest");

    public static void main(String[] args) {
        feeds();
        ends();
        texts();
        rules();
        CHECK.close();
    }

    private static void feeds() {
        BottledPost post = new BottledPost();
        for (int i = 1; i <= 15; i++) CHECK.due("feed", post.feed(0x20202020, 0, -1, 7, i), 20 * i);
        CHECK.due("the 301st byte", post.feed(1, 2, 3, 4, 5), -1);
        CHECK.due("none came", post.about(7), 300);
        CHECK.due("first 281", post.end(281), 281);
        CHECK.due("would be 301", post.feed(1, 2, 3, 4, 5), -1);
        CHECK.due("first 280", post.end(280), 280);
        CHECK.due("fits", post.feed(1, 2, 3, 4, 5), 300);
        // The highest byte first: "wear" "s 12" ";" and no more.
        post.end(0);
        post.feed(0x77656172, 0x73203132, 0x3b000000, 0, 0);
        post.end(9);
        CHECK.due("read", post.text(), 0);
        post.feed(0x77656172, 0x73203132, 0x3b800000, 0, 0);
        CHECK.due("all 20", post.text(), -1);
        CHECK.due("fault", post.fault(0), 1);
        CHECK.due("at the byte behind", post.fault(1), 9);
    }

    private static void ends() {
        BottledPost post = new BottledPost();
        CHECK.due("none of none", post.end(0), 0);
        CHECK.due("one of none", post.end(1), -1);
        post.feed(1, 2, 3, 4, 5);
        CHECK.due("-1", post.end(-1), -1);
        CHECK.due("21", post.end(21), -1);
        CHECK.due("stays", post.about(7), 20);
        CHECK.due("20", post.end(20), 20);
        CHECK.due("7", post.end(7), 7);
        CHECK.due("8", post.end(8), -1);
        CHECK.due("goes on behind them", post.feed(1, 2, 3, 4, 5), 27);
    }

    private static void texts() {
        BottledPost post = new BottledPost();
        CHECK.due("of none", post.text(), 0);
        CHECK.due("without a fault", post.fault(0), 0);
        CHECK.due("no place", post.fault(1), -1);
        CHECK.due("played by it", post.played(0), -1);
        CHECK.due("a fault", Tapes.read(post, "tide 1; x"), -1);
        CHECK.due("the tape is empty", post.about(7), 0);
        CHECK.due("its number", post.fault(0), 1);
        CHECK.due("its place", post.fault(1), 8);
        CHECK.due("what 2", post.fault(2), -1);
        CHECK.due("what -1", post.fault(-1), -1);
        CHECK.due("the next", Tapes.read(post, "tide 1;"), 1);
        CHECK.due("the tape is empty", post.about(7), 0);
        CHECK.due("no fault", post.fault(0), 0);
        CHECK.due("no place", post.fault(1), -1);
        CHECK.due("the next", Tapes.read(post, " \n "), 2);
        CHECK.due("the next", Tapes.read(post, "again 0;"), 3);
        CHECK.due("four", post.about(1), 4);
        CHECK.due("a fifth", Tapes.read(post, "tide 99;"), -1);
        CHECK.due("its tape stays", post.about(7), 8);
        CHECK.due("it was not read", post.fault(0), 0);
        post.back();
        CHECK.due("read now", post.text(), -1);
        CHECK.due("its fault", post.fault(0), 2);
        String longest = "wears " + "1+".repeat(146) + "1;";
        CHECK.due("300 bytes", longest.length(), 300);
        CHECK.due("can be read", Tapes.read(post, longest), 0);
        post.by(0);
        post.person(0, 0);
        post.person(1, 0);
        post.toss(0, 1, 9);
        CHECK.due("all of it counts", post.ofBottle(0, 7), 99);
    }

    private static void rules() {
        BottledPost post = new BottledPost();
        post.person(0, 0);
        post.person(1, 4);
        post.toss(0, 1, 9);
        CHECK.due("no text yet", post.by(0), false);
        Tapes.read(post, "comes 3;");
        Tapes.read(post, "wears 7;");
        CHECK.due("none rules", post.about(2), -1);
        CHECK.due("comes without", post.ofBottle(0, 6), 5);
        CHECK.due("by 0", post.by(0), true);
        CHECK.due("comes", post.ofBottle(0, 6), 3);
        CHECK.due("wears without", post.ofBottle(0, 7), 1);
        CHECK.due("by 1", post.by(1), true);
        CHECK.due("comes without", post.ofBottle(0, 6), 5);
        CHECK.due("wears", post.ofBottle(0, 7), 7);
        CHECK.due("by 2", post.by(2), false);
        CHECK.due("by -2", post.by(-2), false);
        CHECK.due("as it was", post.about(2), 1);
        CHECK.due("none", post.by(-1), true);
        CHECK.due("none rules", post.about(2), -1);
        CHECK.due("wears without", post.ofBottle(0, 7), 1);
    }
}
