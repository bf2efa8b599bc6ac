/** Section IV, sentence by sentence: how likely, codes, sorters, orders, whose law, and what is counted. */
public final class EdgesOfRiddlesTest {
    private static final Check CHECK = new Check("EdgesOfRiddlesTest");

    public static void main(String[] args) {
        likelyTides();
        likelyFromNowOn();
        likelyToOthers();
        odds();
        eightCodes();
        wordsOfCodes();
        clear();
        shortestUnclear();
        readings();
        readingsOfNumbers();
        sortersOfLetters();
        sortersLowest();
        halves();
        ordersOfLetters();
        writes();
        sure();
        said();
        whose();
        whoseAsNow();
        luckiest();
        eldest();
        crowd();
        emptyPlaces();
        byTheBook();
        CHECK.close();
    }

    private static Play play(String what, String lines) {
        return Play.of(CHECK, what, lines);
    }

    private static String likely(int place, int n, long upper, long lower) {
        return "likely " + place + " 0 " + n + " 0 = " + upper + ", likely " + place + " 0 " + n + " 1 = " + lower + "\n";
    }

    /** "within n TIDES (1 .. 8)": "at each TIDE it drifts; AT the PLACE of that one it comes .."; "in lowest terms". */
    private static void likelyTides() {
        play("there from the first on", "still\nperson 3 0\n" + likely(3, 1, 1, 2) + likely(3, 2, 7, 10) + likely(3, 3, 39, 50)
            + likely(3, 8, 130123, 156250) + likely(3, 0, -1, -1) + likely(3, 9, -1, -1) + likely(4, 8, 0, 1));
        play("at first", "person 4 0\n" + likely(4, 1, 0, 1) + likely(3, 1, 1, 2) + likely(0, 1, 0, 1) + likely(0, 2, 9, 20) + likely(0, 3, 63, 100)
            + likely(0, 4, 63, 100) + likely(0, 8, 63, 100) + likely(3, 2, 1, 2) + "is 0 = 0, is 1 = 227");
    }

    /** "from a PLACE now on": by the CURRENT of this TIDE first. */
    private static void likelyFromNowOn() {
        play("from now on", "person 4 0, tide 1\n" + likely(1, 1, 1, 2) + likely(4, 1, 0, 1) + likely(1, 2, 7, 10) + "tide 1\n" + likely(4, 1, 1, 2) + likely(1, 1, 0, 1)
            + "undo, undo\n" + likely(3, 1, 1, 2));
    }

    private static void likelyToOthers() {
        play("others", """
            person 0 0
            likely -1 0 1 0 = -1, likely 10 0 1 0 = -1, likely 0 -1 1 0 = -1, likely 0 1 1 0 = -1, likely 0 0 0 0 = -1, likely 0 0 9 0 = -1
            likely -1 0 1 1 = -1, likely 10 0 1 1 = -1, likely 0 -1 1 1 = -1, likely 0 1 1 1 = -1, likely 0 0 0 1 = -1, likely 0 0 9 1 = -1
            likely 0 0 1 0 = 0, likely 9 0 1 0 = 1, likely 9 0 1 1 = 2
            """);
    }

    /** "(ODDS, told, of 10; together 10 at most; at first 5 to come and 1 to sink)". */
    private static void odds() {
        String there = "still\nperson 3 0\n";
        play("none comes", there + "odds 0 0 = 1\n" + likely(3, 1, 0, 1) + likely(3, 8, 0, 1));
        play("each comes", there + "odds 10 0 = 1\n" + likely(3, 1, 1, 1) + likely(3, 8, 1, 1) + likely(2, 8, 0, 1));
        play("each sinks", there + "odds 0 10 = 1\n" + likely(3, 1, 0, 1) + likely(3, 8, 0, 1));
        play("ten together", there + "odds 9 1 = 1\n" + likely(3, 1, 9, 10) + likely(3, 8, 9, 10) + "odds 1 9 = 1\n" + likely(3, 1, 1, 10) + likely(3, 8, 1, 10));
        play("nine together", there + "odds 1 8 = 1\n" + likely(3, 2, 11, 100) + "odds 8 1 = 1\n" + likely(3, 2, 22, 25));
        play("one of ten", there + "odds 1 0 = 1\n" + likely(3, 8, 56953279, 100000000));
        play("half sinks elsewhere", "person 4 0, odds 5 5 = 1\n" + likely(0, 2, 1, 4) + likely(0, 8, 1, 4) + "odds 5 0 = 1\n" + likely(0, 2, 1, 2) + "odds 1 9 = 1\n" + likely(0, 2, 1, 100));
        play("others", there + """
            odds 10 1 = 0, odds 1 10 = 0, odds 11 0 = 0, odds 0 11 = 0, odds -1 0 = 0, odds 0 -1 = 0, odds -1 11 = 0, odds 11 -1 = 0, odds 6 5 = 0
            """ + likely(3, 2, 7, 10));
    }

    /** "CODES (8 at most ..)": "how many there are (word NONE: none any more). -2 for others, or if there are 8." */
    private static void eightCodes() {
        play("eight", """
            code -1 = 0, about 5 = 0
            code 1 = 1, code 2 = 2, code 3 = 3, code 4 = 4, code 5 = 5, code 6 = 6, code 7 = 7, about 5 = 7
            code 7 = -2, code 1 = -2, code 10 = -2
            code 8 = 8, code 9 = -2, code 8 = -2, about 5 = 8, reads 9 = 0, reads 8 = 1
            code -1 = 0, about 5 = 0, reads 8 = 0, code 9 = 1, code 8 = 2, reads 98 = 1
            """);
        play("none any more", """
            code 2, code 1, clear 0 = 1, code -1 = 0, reads 1 = 0, reads 2 = 0
            code 11 = 1, clear 0 = 1, clear 1 = -1, reads 1 = 0, reads 11 = 1, reads 111 = 0
            code 2 = 2, code 1 = 3, clear 1 = 2, code -1, clear 1 = -1, clear 0 = 1, code 11 = 1, clear 1 = -1
            code -1, code 3, code 4, code 1, code -1, code 12, code 2, clear 0 = 1, clear 1 = -1, code 1 = 3, clear 1 = 2
            """);
    }

    /** "numbers 1 .. 9999 without a 0 in them, unlike". */
    private static void wordsOfCodes() {
        play("words", "code 0 = -2, code -2 = -2, code 10000 = -2, code 11111 = -2, about 5 = 0, code 1 = 1, code 9999 = 2, code 1111 = 3, code 99 = 4, code 111 = 5");
        for (int other : new int[] {10, 20, 90, 100, 101, 110, 190, 209, 900, 990, 1000, 1001, 1010, 1011, 1100, 1101, 1110, 9000, 9099, 9909, 9990}) {
            play("other", "code " + other + " = -2, about 5 = 0, code 9 = 1");
        }
    }

    private static void unclear(int shortest, int... words) {
        StringBuilder codes = new StringBuilder();
        for (int word : words) codes.append("code ").append(word).append(", ");
        play("of " + codes, codes + "clear 0 = " + (shortest < 0 ? 1 : 0) + ", clear 1 = " + shortest + ", clear 2 = -1, clear -1 = -1");
    }

    /** "whether no row of digits is two unlike rows of words put together". */
    private static void clear() {
        unclear(-1);
        unclear(-1, 1);
        unclear(-1, 1111);
        unclear(-1, 1, 2, 3, 4, 5, 6, 7, 8);
        unclear(-1, 1, 21, 221, 2221);
        unclear(-1, 1, 12, 122, 1222);
        unclear(-1, 12, 21, 1222);
        unclear(3, 1, 12, 21);
        unclear(-1, 1, 12, 22);
        unclear(-1, 1, 12, 2222);
        unclear(-1, 1112, 2222, 11, 1222);
        unclear(4, 12, 21, 1221);
    }

    /** "the shortest row that is": of all that are. */
    private static void shortestUnclear() {
        unclear(2, 1, 11);
        unclear(2, 11, 1);
        unclear(3, 1, 111);
        unclear(3, 111, 2, 1);
        unclear(2, 111, 2, 12, 1);
        unclear(4, 1, 1111);
        unclear(5, 11, 111);
        unclear(7, 111, 1111);
        unclear(7, 1111, 111);
        unclear(4, 1111, 111, 11);
        unclear(5, 12, 123, 345, 45);
        unclear(5, 1, 12, 222, 2222);
        unclear(7, 1, 12, 2331, 3314, 45, 5);
        unclear(12, 1, 1234, 2345, 5678, 6789, 9111);
        unclear(13, 1, 1234, 2345, 5678, 6789, 9876, 8762, 2);
        unclear(13, 2, 8762, 9876, 6789, 5678, 2345, 1234, 1);
        unclear(-1, 1, 1234, 2345, 5678, 6789, 9876, 8762, 3);
        unclear(2, 1, 1234, 2345, 5678, 6789, 9876, 2, 12);
    }

    /** "READINGS of a number (1 .. 999999999)". */
    private static void readings() {
        play("ones", """
            code 1, code 11, code 111, code 1111
            reads 1 = 1, reads 11 = 2, reads 111 = 4, reads 1111 = 8, reads 11111 = 15, reads 111111 = 29, reads 1111111 = 56
            reads 11111111 = 108, reads 111111111 = 208
            reads 1111111111 = -1, reads 0 = -1, reads -1 = -1, reads 999999999 = 0, reads 1000000000 = -1, reads 2147483647 = -1
            """);
        play("no codes", "reads 1 = 0, reads 999999999 = 0, reads 0 = -1, reads 1000000000 = -1");
        play("nines", "code 9, code 9999, reads 999999999 = 10, reads 9 = 1, reads 9999 = 2, reads 999 = 1");
    }

    private static void readingsOfNumbers() {
        play("in how many ways", """
            code 1, code 12, code 2, code 345
            reads 12 = 2, reads 21 = 1, reads 1212 = 4, reads 121212121 = 16, reads 345 = 1, reads 345345345 = 1, reads 34 = 0, reads 45 = 0
            reads 12345 = 2, reads 3451 = 1, reads 3452345 = 1, reads 13 = 0, reads 31 = 0
            reads 10 = 0, reads 101 = 0, reads 102 = 0, reads 100000001 = 0, reads 112 = 2
            """);
    }

    /** "SORTERS of the first n letters (0 .. 8)". */
    private static void sortersOfLetters() {
        play("how many", """
            sorters -1 = -1, sorters 9 = -1, sorters 0 = 0, sorters 1 = 1, sorters 8 = 1
            halves 0 7, sorters 7 = 1, sorters 8 = 2, sorters 0 = 0
            halves 0 1, halves 1 7, sorters 8 = 3, sorters 7 = 2, sorters 2 = 2, sorters 1 = 1
            """);
        Play all = play("each unlike each", "");
        for (int a = 0; a < 8; a++) for (int b = 0; b < a; b++) all.on("halves " + a + " " + b + " = 1");
        for (int n = 0; n <= 8; n++) all.on("sorters " + n + " = " + n);
        for (int letter = 0; letter < 8; letter++) all.on("sorter 8 " + letter + " = " + letter);
        play("who has none of these", """
            sorter 0 0 = -1, sorter 1 0 = 0, sorter 1 1 = -1, sorter 1 -1 = -1, sorter 8 7 = 0, sorter 8 8 = -1, sorter 9 0 = -1, sorter 9 8 = -1
            sorter -1 0 = -1, sorter -1 -2 = -1
            """);
    }

    /** "the fewest sorters; of like ones letter by letter the lowest sorter (from 0 on)". */
    private static void sortersLowest() {
        play("the lowest of each", "halves 0 2, sorter 3 0 = 0, sorter 3 1 = 0, sorter 3 2 = 1, sorter 8 7 = 0");
        play("the fewest ahead of the lowest", """
            halves 0 3, halves 1 2, halves 2 3
            sorters 4 = 2, sorter 4 0 = 0, sorter 4 1 = 1, sorter 4 2 = 0, sorter 4 3 = 1
            sorters 3 = 2, sorter 3 0 = 0, sorter 3 1 = 0, sorter 3 2 = 1
            """);
        play("a ring of five", """
            halves 0 1, halves 1 2, halves 2 3, halves 3 4, halves 4 0
            sorters 5 = 3, sorter 5 0 = 0, sorter 5 1 = 1, sorter 5 2 = 0, sorter 5 3 = 1, sorter 5 4 = 2, sorters 4 = 2, sorter 4 3 = 1
            """);
        play("two and two of each", """
            halves 0 4, halves 0 6, halves 1 5, halves 2 4, halves 3 5, halves 4 5, halves 6 7
            sorters 8 = 2, sorter 8 0 = 0, sorter 8 1 = 1, sorter 8 2 = 0, sorter 8 3 = 1, sorter 8 4 = 1, sorter 8 5 = 0, sorter 8 6 = 1, sorter 8 7 = 0
            """);
    }

    /** "HALVES: true. False for others (unlike ones), and if they are." */
    private static void halves() {
        play("halves", """
            halves 0 0 = 0, halves 7 7 = 0, halves -1 0 = 0, halves 0 -1 = 0, halves 8 0 = 0, halves 0 8 = 0, halves 0 32 = 0, halves 33 1 = 0, sorters 8 = 1
            halves 0 7 = 1, halves 0 7 = 0, halves 7 0 = 0, halves 7 6 = 1, halves 6 7 = 0, halves 0 6 = 1, sorters 8 = 3
            """);
    }

    /** "ORDERS of the first n letters (0 .. 8)". */
    private static void ordersOfLetters() {
        play("how many", """
            orders -1 = -1, orders 9 = -1, orders 0 = 1, orders 1 = 1, orders 2 = 2, orders 3 = 6, orders 7 = 5040, orders 8 = 40320
            writes 0 7, orders 7 = 5040, orders 8 = 20160
            writes 7 0, orders 7 = 5040, orders 8 = 0
            """);
        Play chain = play("a chain", "");
        for (int letter = 7; letter > 0; letter--) chain.on("writes " + letter + " " + (letter - 1) + " = 1");
        for (int n = 0; n <= 8; n++) chain.on("orders " + n + " = 1");
    }

    /** "A before b: true. False for others (unlike ones), and if it is so." */
    private static void writes() {
        play("before", """
            writes 0 0 = 0, writes 7 7 = 0, writes -1 0 = 0, writes 0 -1 = 0, writes 8 0 = 0, writes 0 8 = 0, writes 0 32 = 0, orders 8 = 40320
            writes 0 7 = 1, writes 0 7 = 0, writes 7 0 = 1, writes 7 0 = 0, orders 8 = 0
            writes 1 2 = 1, writes 2 3 = 1, writes 1 3 = 1, writes 1 3 = 0, orders 4 = 4
            """);
    }

    /** "1 a is before b in all, -1 in none, 0 in some. -2: there is no order, and for others." */
    private static void sure() {
        play("sure", """
            sure 2 0 1 = 0, sure 2 1 0 = 0, sure 8 7 0 = 0
            writes 6 7, sure 8 6 7 = 1, sure 8 7 6 = -1, sure 7 6 5 = 0, sure 7 6 7 = -2, sure 7 7 6 = -2, sure 8 0 7 = 0
            writes 5 6, sure 8 5 7 = 1, sure 8 7 5 = -1
            sure 8 0 0 = -2, sure 8 8 0 = -2, sure 8 0 8 = -2, sure 8 -1 0 = -2, sure 8 0 -1 = -2, sure 9 0 1 = -2, sure -1 0 1 = -2
            sure 0 0 1 = -2, sure 1 0 1 = -2, sure 1 0 0 = -2
            writes 7 5, sure 8 5 7 = -2, sure 8 0 1 = -2, sure 7 5 6 = 1, sure 7 0 1 = 0
            """);
        play("by one that is not of these", "writes 0 2, writes 2 1, sure 2 0 1 = 0, sure 3 0 1 = 1, sure 3 1 0 = -1");
    }

    /** "SAID: how many there are (bottle NONE: none any more). -2 for others, or if there are 8." */
    private static void said() {
        play("eight", """
            said 0 5 = -2, said -1 0 = 0
            person 0 0, person 1 0, toss 0 1 9
            said 0 -1 = -2, said 0 11 = -2, said 1 5 = -2, said -2 5 = -2, about 6 = 0
            said 0 0 = 1, said 0 10 = 2, said 0 10 = 3, said 0 1 = 4, said 0 1 = 5, said 0 1 = 6, said 0 1 = 7, about 6 = 7
            said 0 1 = 8, said 0 1 = -2, about 6 = 8, said -1 11 = 0, about 6 = 0, said 0 1 = 1
            10x toss 0 1 9, toss 0 1 9 = 11, said 11 1 = 2, said 12 1 = -2
            """);
    }

    /** "TEXTS (bits) by whose comes (a TEXT without it: by what is so without) all are so". */
    private static void whose() {
        play("whose", """
            whose = 0
            person 0 2, person 1 3, toss 0 1 9, toss 1 0 9
            said 0 4 = 1, whose = 0, said -1 0
            text: comes 4; = 0
            text: wears 1; = 1
            text: comes luck+from+1; = 2
            text: comes 99; = 3
            whose = 15
            said 0 4, whose = 7
            said 1 3, whose = 2
            said 1 4, whose = 0
            said -1 0, whose = 15
            said 1 4, whose = 5
            said 0 4, whose = 5, by 3, whose = 5
            said -1 0, said 0 10, whose = 8, said 0 9, whose = 0
            """);
        play("0 and below", """
            person 0 0, person 1 0, toss 0 1 9
            text: comes 0; = 0
            text: comes -5; = 1
            text: comes 1; = 2
            said 0 0, whose = 3
            """);
    }

    /** "(as now; those not there any more aside)". */
    private static void whoseAsNow() {
        play("as now", """
            person 0 0, person 9 0, toss 0 1 9
            text: comes tide; = 0
            text: comes 1; = 1
            said 0 1, whose = 2
            tide 1, whose = 3
            tide 1, whose = 2
            """);
        play("not there any more", """
            person 0 0, person 9 0, toss 0 1 9, toss 1 0 9
            text: comes from; = 0
            text: comes 5; = 1
            said 0 0, said 1 7, said 0 0
            whose = 0, undo = 1, whose = 1, about 6 = 3
            undo = 0, whose = 3, about 6 = 3
            toss 1 0 9 = 0, whose = 0, said -1 0, said 0 1, whose = 1
            """);
        play("one not there ahead of one that is", """
            person 0 0, person 9 0, toss 0 1 9, toss 1 0 9
            text: comes from; = 0
            said 1 7, said 0 0, whose = 0, undo = 1, whose = 1
            said 0 1, whose = 0
            """);
        play("the eighth that is said", """
            person 0 0, person 9 0, toss 0 1 9, toss 1 0 9
            text: comes from; = 0
            text: comes 0; = 1
            7x said 0 0, whose = 3, said 1 1 = 8, whose = 1
            said -1 0 = 0, 7x said 0 0, said 1 0 = 8, whose = 2
            """);
        play("of one that is kept, came or sank", """
            still
            person 0 9, person 0 9, person 0 9, toss 0 1 9, toss 0 1 1, toss 0 1 9
            text: comes cork; = 0
            fish 0 2, tide 1 = 1
            said 0 9, said 1 0, said 2 8, whose = 1
            said 1 1, whose = 0
            """);
    }

    /** "LUCKIEST: the PERSON to whom most came; of like ones the lowest; none (to none any)." */
    private static void luckiest() {
        play("luckiest", """
            luckiest = -1
            still
            person 0 0, person 0 9, person 0 9, luckiest = -1
            toss 0 2 9, tide 1 = 1, luckiest = 2
            toss 0 1 9, tide 1 = 1, luckiest = 1
            toss 0 2 9, tide 1 = 1, luckiest = 2
            toss 0 1 1, fish 3 1, luckiest = 2
            undo, undo, undo, undo, luckiest = 1, undo, undo, luckiest = 2, undo, luckiest = -1
            """);
        play("the first and the last", "still\nperson 0 9, person 0 9, person 0 9, person 0 9, person 0 9, person 0 9, toss 0 5 9, tide 1, luckiest = 5, toss 5 0 9, tide 1, luckiest = 0");
    }

    /** "ELDEST: the BOTTLE afloat that was TOSSED first on the earliest TIDE; of like ones the lowest; none." */
    private static void eldest() {
        play("eldest", """
            still
            eldest = -1, person 0 0, person 5 0, person 0 0
            toss 0 1 9, eldest = 0
            toss 0 1 9, eldest = 0
            tide 1, toss 0 1 99, eldest = 0
            fish 0 2, eldest = 1, fish 1 2, eldest = 2
            again 1, eldest = 1, again 0, eldest = 0
            tide 20, eldest = 2, tide 60, tide 60, eldest = -1
            """);
        play("the last one", "person 0 0, person 9 0\n11x toss 0 1 1\ntoss 0 1 9, tide 1, is 2 = 2048, eldest = 11");
        play("none is", "person 0 0, person 0 0, toss 0 1 9, fish 0 1, eldest = -1, again 0, eldest = 0");
    }

    /** "CROWD: the PLACE AT which most are afloat; of like ones the lowest; none (none is)." */
    private static void crowd() {
        play("crowd", """
            still
            crowd = -1, person 9 0, person 0 0, person 9 0, crowd = -1
            toss 0 1 9, crowd = 9
            toss 1 0 9, crowd = 0
            toss 0 1 9, crowd = 9
            fish 0 2, crowd = 0, fish 2 2, crowd = 0
            undo, undo, crowd = 9, current 0 9 5, tide 1, crowd = 5
            tide 9, crowd = -1
            """);
    }

    /** "EMPTY PLACES: where no PERSON is and nothing is afloat." */
    private static void emptyPlaces() {
        play("empty", """
            empty = 1023
            person 0 0, empty = 1022, person 9 9, empty = 510, person 9 0, empty = 510
            current 0 9 5, toss 1 0 3, toss 2 0 9, empty = 510
            tide 1, empty = 478
            tide 1, ofBottle 0 2 = 8, empty = 254
            tide 1, ofBottle 0 4 = 2, empty = 254
            """);
        play("what is kept or sank leaves it empty", """
            person 0 0, person 1 9, toss 0 1 2
            empty = 1020, current 0 0 5, tide 1, empty = 988, tide 1, ofBottle 0 4 = 2, empty = 1020
            """);
    }

    /** "BY THE BOOK: how many of a what (0 .. 2).": of the latest 30 lines. */
    private static void byTheBook() {
        play("by the book", """
            ledger 0 = 0, ledger 1 = 0, ledger 2 = 0, ledger -1 = -2, ledger 3 = -2
            still
            person 0 9, person 0 9, person 0 9
            toss 0 1 9, toss 0 1 1, toss 0 1 1, fish 0 2, again 0, fish 0 1, again 0
            tide 1 = 1, ledger 0 = 1, ledger 1 = 2, ledger 2 = 2, book -1 0 = 5
            undo, ledger 0 = 0, ledger 1 = 0, ledger 2 = 2
            """);
        Play lines = play("the latest 30", "still\nperson 0 9, person 0 9, person 0 9, toss 0 1 9, tide 1 = 1, toss 0 1 1, tide 1 = 0, toss 0 1 9");
        for (int i = 0; i < 28; i++) lines.on("fish 2 2 = 1, again 2 = 1");
        lines.on("ledger 0 = 1, ledger 1 = 1, ledger 2 = 28, fish 2 2, ledger 0 = 0, ledger 1 = 1, ledger 2 = 29, again 2, fish 2 2, ledger 1 = 0, ledger 2 = 30");
        lines.on("again 2, fish 2 2, ledger 2 = 30, undo, undo, undo, ledger 1 = 1, ledger 2 = 29");
    }
}
