import java.nio.charset.StandardCharsets;
import java.util.Arrays;
import java.util.Random;

/** Random runs of calls, each answer compared with the oracle's. The runs are the same each time. */
public final class OracleTest {
    private static final String[] CALLS = {
        "person 2", "current 3", "feed 5", "end 1", "text 0", "fault 1", "by 1", "toss 3", "fish 2", "again 1",
        "tide 1", "played 1", "years 2", "undo 0", "of 2", "ofBottle 2", "told 2", "is 1", "book 2", "foretold 3",
        "ends 1", "drift 2", "soonest 3", "relay 3", "found 2", "tossed 1", "likely 4", "odds 2", "code 1", "clear 1",
        "reads 1", "halves 2", "sorters 1", "sorter 2", "writes 2", "orders 1", "sure 3", "said 2", "whose 0",
        "luckiest 0", "eldest 0", "crowd 0", "empty 0", "ledger 1", "image 0", "back 0", "about 1"};
    private static final String[] RIDDLES = {
        "found 2", "tossed 1", "likely 4", "odds 2", "code 1", "code 1", "clear 1", "reads 1", "halves 2", "sorters 1",
        "sorter 2", "writes 2", "orders 1", "sure 3", "said 2", "whose 0", "relay 3", "soonest 3", "current 3"};
    private static final int[] ODD_NUMBERS = {
        Integer.MIN_VALUE, Integer.MAX_VALUE, -1, -2, -3, 10, 11, 12, 13, 60, 61, 99, 100, 9999, 10000, 1 << 30};
    private static final int RUNS = 600;
    private static final int CALLS_A_RUN = 512;

    private final Check check = new Check("OracleTest");
    private Random random;
    private BottledPost post;
    private Oracle oracle;
    private int calls;
    private int wrongAtStart;
    private String run;

    public static void main(String[] args) {
        OracleTest test = new OracleTest();
        for (int seed = 1; seed <= RUNS; seed++) test.run(seed);
        test.check.close();
    }

    private void run(int seed) {
        random = new Random(seed);
        post = new BottledPost();
        oracle = new Oracle();
        calls = 0;
        run = "run " + seed;
        if (seed % 40 == 0) for (int i = 0; i < 160 + random.nextInt(7); i++) both("tide", 60);
        if (seed % 7 != 0) tellPersons();
        int riddles = seed % 5 == 0 ? 80 : 20;
        int texts = seed % 3 == 0 ? 60 : 4;
        int deeds = seed % 3 == 1 ? 70 : 25;
        while (calls < CALLS_A_RUN) {
            int kind = random.nextInt(100);
            if (kind < texts) readText(random.nextInt(2) == 0);
            else if (kind < texts + deeds) act();
            else any(random.nextInt(100) < riddles ? RIDDLES : CALLS);
        }
    }

    /** Few places, so that many are met there. */
    private void tellPersons() {
        int places = 2 + random.nextInt(9);
        for (int i = 0; i < 2 + random.nextInt(5); i++) both("person", random.nextInt(places), random.nextInt(10));
        if (random.nextInt(4) != 0) both("image");
    }

    private void act() {
        switch (random.nextInt(12)) {
            case 0:
            case 1: both("toss", small(6), small(6), random.nextInt(4) == 0 ? 1 + random.nextInt(5) : 1 + random.nextInt(99)); break;
            case 2:
            case 3:
            case 4: fishOne(); break;
            case 5:
            case 6: both("again", keptOne()); break;
            case 7:
                if (small(3) == 0) both("years", random.nextInt(10000), 1 + random.nextInt(40));
                else if (oracle.all.sea.bottles.size() == 12) both("back");
                break;
            case 8: for (int i = small(8); i > 0; i--) both("undo"); break;
            case 9: askAll(small(12)); break;
            default: both("tide", random.nextInt(12) == 0 ? 1 + random.nextInt(60) : 1 + random.nextInt(3));
        }
    }

    /** Mostly one that can be fished by somebody. */
    private void fishOne() {
        for (int tries = 0; tries < 30; tries++) {
            int bottle = small(12);
            int person = small(6);
            if (bottle >= oracle.all.sea.bottles.size() || person >= oracle.all.persons.size()) continue;
            Oracle.Bottle b = oracle.all.sea.bottles.get(bottle);
            if (b.how != 0 || b.at != oracle.all.persons.get(person)[0]) continue;
            both("fish", bottle, person);
            return;
        }
        both("fish", small(12), small(6));
    }

    private int keptOne() {
        for (int bottle = 0; bottle < oracle.all.sea.bottles.size(); bottle++) {
            if (oracle.all.sea.bottles.get(bottle).how >= 3 && small(3) != 0) return bottle;
        }
        return small(13);
    }

    private void askAll(int bottle) {
        for (int what = 0; what < 8; what++) both("ofBottle", bottle, what);
        int n = 1 + small(20);
        for (int what = 0; what < 3; what++) both("foretold", n, bottle, what);
        both("ends", bottle);
        both("is", 2);
        int line = small(30);
        for (int what = 0; what < 4; what++) both("book", line, what);
    }

    private int small(int n) {
        return random.nextInt(n);
    }

    private void any(String[] all) {
        String[] call = all[random.nextInt(all.length)].split(" ");
        // An image of four texts would let none be read any more.
        if (call[0].equals("image") && oracle.all.texts.size() > 1 && random.nextInt(8) != 0) return;
        int[] args = new int[Integer.parseInt(call[1])];
        for (int i = 0; i < args.length; i++) args[i] = likelyNumber(call[0], i);
        both(call[0], args);
    }

    private int likelyNumber(String name, int i) {
        if (random.nextInt(25) == 0) return ODD_NUMBERS[random.nextInt(ODD_NUMBERS.length)];
        switch (name) {
            case "feed": return random.nextInt();
            case "code": return random.nextInt(12) == 0 ? -1 : word(1 + random.nextInt(4));
            case "reads": return word(1 + random.nextInt(9));
            case "tide": return random.nextInt(62);
            case "end": return random.nextInt(300);
            case "years": return i == 0 ? random.nextInt(10001) : random.nextInt(42);
            case "foretold": return i == 0 ? random.nextInt(62) : small(4);
            case "drift": return i == 0 ? small(11) : random.nextInt(62);
            case "found": return random.nextInt(10) == 0 ? -1 : i == 0 ? small(11) : random.nextInt(62);
            case "person":
            case "current": return small(11);
            case "toss": return i == 2 ? random.nextInt(101) : small(7);
            case "likely": return i == 3 ? small(2) : small(10);
            case "odds": return small(12);
            case "halves":
            case "writes":
            case "orders":
            case "sorters":
            case "sorter":
            case "sure": return small(9);
            case "by": return small(6) - 1;
            case "played": return small(5);
            case "relay": return i == 2 ? small(5) - 1 : small(6);
            case "soonest": return i == 2 ? small(2) : small(6);
            case "book": return i == 0 ? random.nextInt(32) - 1 : small(5);
            case "said": return random.nextInt(10) == 0 ? -1 : small(12);
            case "ofBottle": return i == 0 ? small(12) : small(9);
            case "clear":
            case "tossed": return small(3);
            default: return small(9);
        }
    }

    /** A word of few unlike digits, so that codes are often unclear. */
    private int word(int digits) {
        int word = 0;
        for (int i = 0; i < digits; i++) word = word * 10 + (random.nextInt(40) == 0 ? 0 : 1 + random.nextInt(2));
        return word;
    }

    private void readText(boolean broken) {
        TextMaker maker = new TextMaker(random);
        byte[] text = maker.make().getBytes(StandardCharsets.ISO_8859_1);
        if (broken) text = maker.spoil(text);
        if (text.length > 300) return;
        both("end", 0);
        for (int at = 0; at < text.length; at += 20) {
            int[] fours = new int[5];
            for (int i = 0; i < 20 && at + i < text.length; i++) fours[i / 4] |= (text[at + i] & 255) << 24 - i % 4 * 8;
            both("feed", fours);
        }
        both("end", text.length);
        both("text");
        both("fault", 0);
        both("fault", 1);
        int texts = (int) oracle.call("about", new int[] {1});
        if (texts > 0 && random.nextBoolean()) both("by", random.nextInt(texts + 1) - 1);
        if (texts > 0 && random.nextInt(4) == 0) both("played", random.nextInt(texts));
        if (texts == 4 && random.nextInt(4) != 0) both("back");
    }

    private void both(String name, int... args) {
        if (calls >= CALLS_A_RUN) return;
        calls++;
        check.due(run + ", call " + calls + ": " + name + Arrays.toString(args), Caller.call(post, name, args), oracle.call(name, args));
    }
}
