/**
 * Each number that a call takes: with the smallest and the largest it isn't refused, with one below, one above and far
 * numbers it is. What is refused, and what only asks, leaves all as it was: a twin to which it was not said is like it.
 */
public final class RangesTest {
    private static final Check CHECK = new Check("RangesTest");

    /** A bottle of each kind, two texts, one of which rules, something told of all, an image, a fault, and a tape. */
    private static final String FULL = """
        person 0 4, person 1 9, person 1 2
        toss 0 1 60 = 0, toss 0 2 50 = 1, toss 2 0 1 = 2, toss 0 1 9 = 3
        image = 0
        text: wears 2;comes near; = 0
        text: tide 1;comes 3; = 1
        by 0 = 1
        tide 1 = 1
        fish 0 2 = 1
        ofBottle 0 4 = 5, ofBottle 1 4 = 0, ofBottle 2 4 = 2, ofBottle 3 4 = 1
        found 5 2, found 6 2, found 5 5
        code 1, code 11, code 12
        halves 0 1, halves 1 2, writes 0 1, writes 2 1
        said 0 1, said 3 1
        odds 4 2
        text: wears x = -1
        feed 1953064037 540097339 0 0 0 = 20, feed 0 0 0 0 0 = 40, end 30 = 30
        """;

    /** A call that can be | the smallest and the largest of each of its numbers = what it answers to others. */
    private static final String[] RANGES = {
        "person 3 3 | 0:9 0:9 = -1",
        "current 1 4 7 | 0:2 0:9 0:9 = 0",
        "end 7 | 0:30 = -1",
        "fault 0 | 0:1 = -1",
        "by 0 | -1:1 = 0",
        "toss 0 2 50 | 0:1 1:2 1:99 = -1",
        "toss 2 0 50 | 1:2 0:1 1:99 = -1",
        "fish 1 1 | 1:1 1:2 = 0",
        "again 0 | 0:0 = 0",
        "tide 5 | 1:60 = -1",
        "played 1 | 0:1 = -2",
        "years 7 7 | 0:9999 1:40 = -1",
        "of 1 1 | 0:2 0:3 = -1",
        "ofBottle 1 1 | 0:3 0:7 = -2",
        "told 1 1 | 0:2 0:9 = -1",
        "is 1 | 0:3 = -2",
        "book 1 1 | -1:2 0:3 = -2",
        "foretold 7 1 0 | 1:60 0:3 0:2 = -1",
        "ends 1 | 1:1 = -1",
        "drift 4 7 | 0:9 0:60 = -1",
        "soonest 0 1 0 | 0:2 0:2 0:1 = -1",
        "relay 0 1 -1 | 0:0 1:2 -1:-1 = -2",
        "relay 1 0 -1 | 1:2 0:0 -1:-1 = -2",
        "found 4 7 | -1:9 1:60 = -2",
        "tossed 0 | 0:1 = -1",
        "likely 4 1 3 0 | 0:9 0:2 1:8 = -1",
        "likely 4 1 3 1 | 0:9 0:2 1:8 = -1",
        "odds 0 0 | 0:10 0:10 = 0",
        "odds 7 3 | 0:7 0:3 = 0",
        "code 2 | 2:9 = -2",
        "clear 0 | 0:1 = -1",
        "reads 11 | 1:999999999 = -1",
        "halves 6 7 | 0:6 7:7 = 0",
        "halves 7 6 | 7:7 0:6 = 0",
        "sorters 3 | 0:8 = -1",
        "sorter 8 3 | 4:8 0:7 = -1",
        "writes 6 7 | 0:6 7:7 = 0",
        "writes 7 6 | 7:7 0:6 = 0",
        "orders 3 | 0:8 = -1",
        "sure 8 6 7 | 8:8 0:6 7:7 = -2",
        "sure 8 7 6 | 8:8 7:7 0:6 = -2",
        "said 1 4 | -1:3 0:10 = -2",
        "ledger 1 | 0:2 = -2",
        "about 1 | 0:7 = -2"};

    /** What is refused for another cause than that a number is too small or too large. */
    private static final String[] REFUSED = {
        "toss 0 0 50 = -1", "toss 2 2 50 = -1", "fish 0 1 = 0", "fish 0 2 = 0", "fish 1 0 = 0", "fish 2 0 = 0", "fish 2 1 = 0",
        "fish 3 1 = 0", "fish 3 2 = 0", "again 1 = 0", "again 2 = 0", "again 3 = 0", "again 4 = 0", "ends 0 = -1", "ends 2 = -1",
        "ends 3 = -1", "ends 4 = -1", "relay 0 0 -1 = -2", "relay 0 1 0 = -2", "relay 0 1 -2 = -2", "found -2 60 = -2",
        "found -2 -2 = -2", "found 5 0 = -2", "odds 10 1 = 0", "odds 1 10 = 0", "odds 4 7 = 0", "odds 11 -1 = 0", "odds -1 11 = 0",
        "code 0 = -2", "code -2 = -2", "code 10000 = -2", "code 11111 = -2", "code 1 = -2", "code 12 = -2", "code 10 = -2",
        "code 101 = -2", "code 110 = -2", "code 1101 = -2", "code 1011 = -2", "code 9990 = -2", "halves 0 1 = 0", "halves 1 0 = 0",
        "halves 2 1 = 0", "halves 3 3 = 0", "writes 0 1 = 0", "writes 2 1 = 0", "writes 3 3 = 0", "sorter 0 0 = -1", "sorter 4 4 = -1",
        "sure 8 3 3 = -2", "sure 4 4 0 = -2", "sure 4 0 4 = -2", "sure 0 0 1 = -2", "sure 1 0 1 = -2", "said 4 5 = -2", "said -2 5 = -2",
        "tide 0 = -1", "book 3 0 = -2", "book -2 0 = -2"};

    /** What only asks. */
    private static final String[] ASKS = {
        "fault 0", "fault 1", "of 1 3", "ofBottle 1 6", "ofBottle 1 7", "told 2 9", "is 2", "book -1 0", "book 1 1", "foretold 60 1 0",
        "foretold 1 1 2", "ends 1", "drift 0 60", "soonest 0 1 0", "soonest 1 1 1", "relay 0 2 -1", "relay 0 1 0", "tossed 0",
        "likely 0 1 8 0", "likely 0 1 8 1", "clear 0", "clear 1", "reads 111111111", "sorters 8", "sorter 8 7", "orders 8",
        "sure 8 0 1", "whose", "luckiest", "eldest", "crowd", "empty", "ledger 0", "about 3"};

    private static final String UNTOUCHED = Look.at(full());

    public static void main(String[] args) {
        for (String row : RANGES) ranges(row);
        for (String row : REFUSED) refused(row.split(" = ")[0], row.split(" = ")[1]);
        for (String call : ASKS) asked(call);
        CHECK.close();
    }

    private static Play full() {
        return Play.of(CHECK, "the full one", FULL);
    }

    private static void ranges(String row) {
        String[] halves = row.split(" \\| ");
        String[] words = halves[0].split(" ");
        String[] ranges = halves[1].split(" = ")[0].split(" ");
        String others = halves[1].split(" = ")[1];
        for (int i = 0; i < ranges.length; i++) {
            int low = Integer.parseInt(ranges[i].split(":")[0]);
            int high = Integer.parseInt(ranges[i].split(":")[1]);
            accepted(with(words, i + 1, low), others);
            accepted(with(words, i + 1, high), others);
            refused(with(words, i + 1, low - 1), others);
            refused(with(words, i + 1, high + 1), others);
            refused(with(words, i + 1, Integer.MIN_VALUE), others);
            refused(with(words, i + 1, Integer.MAX_VALUE), others);
        }
        refused(words[0] + (" " + Integer.MIN_VALUE).repeat(words.length - 1), others);
        refused(words[0] + (" " + Integer.MAX_VALUE).repeat(words.length - 1), others);
    }

    private static String with(String[] words, int i, int number) {
        String[] changed = words.clone();
        changed[i] = "" + number;
        return String.join(" ", changed);
    }

    private static void accepted(String call, String others) {
        CHECK.due(call + " is refused", full().call(call) == Long.parseLong(others), false);
    }

    private static void refused(String call, String others) {
        Play play = full();
        CHECK.due(call, play.call(call), Long.parseLong(others));
        CHECK.due(call, Look.at(play), UNTOUCHED);
    }

    private static void asked(String call) {
        Play play = full();
        play.call(call);
        CHECK.due(call, Look.at(play), UNTOUCHED);
    }
}
