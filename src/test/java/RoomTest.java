import java.lang.management.ManagementFactory;

/** All calls of a run live in one room: what 512 of the same call make must stay far below it. */
public final class RoomTest {
    private static final int CALLS = 512;
    private static final long ROOM_BYTES = 4L * 1000 * 1000;
    private static final String LONGEST = "wears " + "1+".repeat(145) + "1;";

    private static final String[] CALLS_WITH_NUMBERS = {
        "person 0 0", "current 0 0 0", "feed 1 2 3 4 5", "end 0", "text", "fault 0", "by 0", "toss 0 1 9", "fish 0 2",
        "again 0", "tide 18", "played 0", "years 3 40", "undo", "of 0 2", "ofBottle 0 6", "told 0 0", "is 2", "book 0 0",
        "foretold 60 0 0", "ends 0", "drift 0 60", "soonest 0 1 0", "relay 0 1 0", "found 0 1", "tossed 0",
        "likely 0 1 8 1", "odds 1 1", "code 12", "clear 1", "reads 121212121", "halves 0 1", "sorters 8", "sorter 8 7",
        "writes 0 1", "orders 8", "sure 8 0 1", "said 0 1", "whose", "luckiest", "eldest", "crowd", "empty", "ledger 0",
        "image", "back", "about 0"};

    public static void main(String[] args) {
        Check check = new Check("RoomTest");
        com.sun.management.ThreadMXBean threads = (com.sun.management.ThreadMXBean) ManagementFactory.getThreadMXBean();
        long self = Thread.currentThread().getId();
        for (String line : CALLS_WITH_NUMBERS) {
            String[] words = line.split(" ");
            int[] numbers = new int[words.length - 1];
            for (int i = 0; i < numbers.length; i++) numbers[i] = Integer.parseInt(words[i + 1]);
            long before = threads.getThreadAllocatedBytes(self);
            BottledPost post = new BottledPost();
            for (int i = 0; i < 4; i++) post.person(i % 2, 5);
            for (int i = 0; i < 12; i++) post.toss(0, 1, 99);
            for (int i = 0; i < CALLS; i++) {
                if (words[0].equals("text")) readLongest(post);
                else Caller.call(post, words[0], numbers);
            }
            long made = threads.getThreadAllocatedBytes(self) - before;
            check.due(line + " made " + made + " bytes", made < ROOM_BYTES, true);
        }
        check.close();
    }

    private static void readLongest(BottledPost post) {
        post.back();
        post.end(0);
        for (int at = 0; at < LONGEST.length(); at += 20) {
            post.feed(four(at), four(at + 4), four(at + 8), four(at + 12), four(at + 16));
        }
        post.end(LONGEST.length());
        post.text();
    }

    private static int four(int at) {
        int four = 0;
        for (int i = 0; i < 4; i++) four = four << 8 | (at + i < LONGEST.length() ? LONGEST.charAt(at + i) : 0);
        return four;
    }
}
