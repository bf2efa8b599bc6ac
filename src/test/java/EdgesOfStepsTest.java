/** Sections I and V, sentence by sentence: what is a step, the book, years, the image. */
public final class EdgesOfStepsTest {
    private static final Check CHECK = new Check("EdgesOfStepsTest");

    public static void main(String[] args) {
        whatIsAStep();
        whatIsNoStep();
        thirtySteps();
        whatIsTakenBack();
        whatStays();
        thirtyLines();
        linesTakenBack();
        linesOfAll();
        seeds();
        howManyYears();
        nobodyThere();
        noBottleThere();
        oneThere();
        kindsOfYears();
        corksOfYears();
        whatCantBe();
        yearsAtTheEnd();
        oneStep();
        imageOfAll();
        imageOfSayings();
        allButTheTape();
        theImageStays();
        about();
        CHECK.close();
    }

    private static Play play(String what, String lines) {
        return Play.of(CHECK, what, lines);
    }

    /** "STEPS: TOSSED, FISHED, TOSSED AGAIN, a TIDE (each), YEARS". */
    private static void whatIsAStep() {
        play("steps", """
            undo = -1
            person 0 0, person 4 0, person 0 0
            toss 0 1 9, about 3 = 1
            fish 0 2, about 3 = 2
            again 0, about 3 = 3
            tide 1, about 3 = 4
            tide 5, about 3 = 9
            years 0 40, about 3 = 10
            undo = 9, undo = 8, undo = 7, undo = 6, undo = 5, undo = 4, undo = 3, undo = 2, undo = 1, undo = 0, undo = -1, undo = -1
            about 3 = 0
            """);
    }

    private static void whatIsNoStep() {
        play("no steps", """
            person 0 0, person 4 0, current 0 0 0
            toss 0 0 9 = -1, toss 0 1 0 = -1, fish 0 1 = 0, again 0 = 0, tide 0 = -1, tide 61 = -1, years 0 0 = -1, years -1 1 = -1
            text: wears 1;person 3 luck 3;again 0; = 0
            by 0, played 0 = 2
            found 1 1, odds 1 1, code 1, halves 0 1, writes 0 1, image, back, drift 0 3
            about 3 = 0, undo = -1
            """);
    }

    /** "the latest 30 can be taken back, the latest first". */
    private static void thirtySteps() {
        play("29 and 30", """
            person 0 0, person 4 0
            tide 29, about 3 = 29, undo = 28, is 0 = 28, tide 1, about 3 = 29
            tide 1, about 3 = 30
            30x undo, is 0 = 0, undo = -1, is 0 = 0
            """);
        play("31", """
            person 0 0, person 4 0
            toss 0 1 9, tide 30, about 3 = 30
            undo = 29, is 0 = 29, 29x undo, is 0 = 0, is 3 = 1, ofBottle 0 3 = 9
            about 3 = 0, undo = -1, is 3 = 1
            """);
        play("many", """
            person 0 0, person 4 0
            tide 60, toss 0 1 9, tide 17, toss 1 0 8, about 3 = 30
            undo = 29, is 3 = 1, is 0 = 77
            undo = 28, is 0 = 76, 16x undo, is 0 = 60, is 3 = 1
            undo = 11, is 3 = 0, is 0 = 60, undo = 10, is 0 = 59
            9x undo, undo = 0, is 0 = 49, undo = -1, is 0 = 49
            """);
    }

    /** "BOTTLES, TIDE, X, BOOK are as ahead of it". */
    private static void whatIsTakenBack() {
        play("taken back", """
            person 0 0, person 1 9, person 1 0
            toss 0 1 9 = 0, toss 0 2 2 = 1, toss 0 2 1 = 2
            tide 1 = 1
            ofBottle 0 4 = 1, ofBottle 1 3 = 1, ofBottle 2 4 = 2, book -1 0 = 2, is 0 = 1, is 1 = 27682
            fish 1 1 = 1, book -1 0 = 3
            again 1 = 1
            undo = 5, ofBottle 1 4 = 4, book -1 0 = 3
            undo = 4, ofBottle 1 4 = 0, book -1 0 = 2, ledger 2 = 0
            undo = 3, is 0 = 0, is 1 = 227, is 2 = 7, book -1 0 = 0, ofBottle 0 4 = 0, ofBottle 0 2 = 0, ofBottle 0 3 = 9, ofBottle 1 3 = 2
            ofBottle 2 3 = 1, ofBottle 2 2 = 0, of 1 2 = 0
            undo = 2, is 3 = 2, ofBottle 2 0 = -2
            """);
    }

    /** "PERSONS, CURRENTS stay as told", and so does what is no BOTTLE, TIDE, X nor BOOK. */
    private static void whatStays() {
        play("stays", """
            tide 1
            person 3 4, person 5 6, current 1 7 8
            text: comes 3; = 0
            by 0, found 1 1, code 1, said 0 1 = -2, odds 0 0, halves 0 1, writes 0 1, feed 1 2 3 4 5
            toss 0 1 9, said 0 3 = 1
            undo = 1, undo = 0, is 0 = 0, is 3 = 0
            about 0 = 2, about 1 = 1, about 2 = 0, about 4 = 1, about 5 = 1, about 6 = 1, about 7 = 20
            of 0 0 = 3, of 1 1 = 6, told 1 7 = 8, sorters 2 = 2, orders 2 = 1, likely 3 0 8 0 = 0
            """);
    }

    /** "BOOK (the latest 30): TIDE, BOTTLE, what, AT", "the i-th, from the eldest on". */
    private static void thirtyLines() {
        Play play = play("lines", """
            still
            person 3 0, person 5 0, person 3 0
            toss 0 1 99
            book -1 0 = 0, book 0 0 = -2, book -2 0 = -2
            """);
        for (int line = 0; line < 29; line++) play.on("fish 0 2 = 1, again 0 = 1, tide 1 = 0, book -1 9 = " + (line + 1));
        play.on("""
            book 28 0 = 28, book 29 0 = -2
            fish 0 2, again 0, tide 1, book -1 0 = 30
            book 0 0 = 0, book 29 0 = 29, book 30 0 = -2, ledger 2 = 30
            book 29 1 = 0, book 29 2 = 2, book 29 3 = 3, book 29 4 = -2, book 29 -1 = -2
            fish 0 2, again 0, tide 1, book -1 0 = 30
            book 0 0 = 1, book 28 0 = 29, book 29 0 = 30, book 30 0 = -2, ledger 2 = 30
            toss 0 2 9 = 1
            9x tide 1, is 0 = 40
            book -1 0 = 30
            """);
    }

    /** The line that is gone from the BOOK by the 31st comes back with the STEP that is taken back. */
    private static void linesTakenBack() {
        Play play = play("lines taken back", "still\nperson 3 0, person 5 0, person 3 0\ntoss 0 1 99");
        play.on("29x tide 1");
        for (int line = 0; line < 30; line++) play.on("fish 0 2 = 1, again 0 = 1");
        play.on("tide 1, fish 0 2 = 1, book -1 0 = 30, book 0 0 = 29, book 29 0 = 30");
        play.on("undo = 29, book -1 0 = 30, book 0 0 = 29, book 29 0 = 29, undo = 28, is 0 = 29");
    }

    /** "what: 0 it came, 1 it sank, 2 it was FISHED": each is written down, AT where it was by then. */
    private static void linesOfAll() {
        play("lines of all", """
            person 0 0, person 4 9, person 1 0, person 5 9
            toss 0 1 2 = 0, toss 0 1 9 = 1, toss 2 3 9 = 2
            tide 1 = 0, fish 1 2 = 1, tide 1 = 1
            book -1 0 = 3
            book 0 0 = 1, book 0 1 = 1, book 0 2 = 2, book 0 3 = 1
            book 1 0 = 1, book 1 1 = 0, book 1 2 = 1, book 1 3 = 4
            book 2 0 = 1, book 2 1 = 2, book 2 2 = 0, book 2 3 = 5
            """);
    }

    /** "X is SEED (0 .. 9999) * 2 + 227", "then X is anew (as in a draw)", "n times (1 .. 40)". */
    private static void seeds() {
        play("seeds", "years 0 1 = 1, is 1 = 13085, undo = 0, is 1 = 227, is 0 = 0");
        play("the largest", "years 9999 1 = 1, is 1 = " + (20225L * 461 + 349) % 30637 + ", years 1 1 = 1, is 1 = " + (229L * 461 + 349) % 30637);
        play("others", "years -1 1 = -1, years 10000 1 = -1, is 1 = 227, about 3 = 0");
        play("x as it was does not count", "years 5 1, years 0 1, is 1 = 13085");
    }

    private static void howManyYears() {
        play("others", "years 0 0 = -1, years 0 41 = -1, years 0 -1 = -1, is 1 = 227, about 3 = 0, is 0 = 0");
        for (int n : new int[] {1, 2, 39, 40}) {
            long x = 227;
            int tides = 0;
            for (int i = 0; i < n; i++) {
                if (x % 6 > 3) tides++;
                x = (x * 461 + 349) % 30637;
            }
            play(n + " years", "years 0 " + n + " = " + tides + ", is 0 = " + tides + ", is 1 = " + x + ", about 3 = 1, undo = 0, is 0 = 0");
        }
    }

    /** "What there are none of isn't." */
    private static void nobodyThere() {
        for (int seed = 0; seed < 6; seed++) {
            int tide = (seed * 2 + 227) % 6 > 3 ? 1 : 0;
            play("nobody, seed " + seed, "years " + seed + " 1 = " + tide + ", is 3 = 0, is 1 = " + ((seed * 2 + 227) * 461 + 349) % 30637
                + ", about 3 = 1");
        }
        play("nobody for long", "100x years 77 40, is 3 = 0, book -1 0 = 0");
    }

    /** A seed whose first x has this kind and, divided by so many, leaves this rest, as x / 6 does; NONE (-1) there may be. */
    private static int seedOf(int kind, int by, int rest, int by6, int rest6) {
        for (int seed = 0; seed < 10000; seed++) {
            int x = seed * 2 + 227;
            if (x % 6 == kind && x % by == rest && x / 6 % by6 == rest6) return seed;
        }
        return -1;
    }

    /** A seed whose second x is so; its first one does nothing on a sea without a bottle that is kept (kind 3). */
    private static int secondSeedOf(int kind, int by, int rest, int by6, int rest6) {
        for (int seed = 0; seed < 10000; seed++) {
            int first = seed * 2 + 227;
            int x = (first * 461 + 349) % 30637;
            if (first % 6 == 3 && x % 6 == kind && x % by == rest && x / 6 % by6 == rest6) return seed;
        }
        return -1;
    }

    /** "BOTTLE x mod how many": of none there is none to be FISHED or TOSSED AGAIN. */
    private static void noBottleThere() {
        play("no bottle to fish", "person 0 0, person 0 0, years " + secondSeedOf(2, 1, 0, 2, 1) + " 2 = 0, is 3 = 0, book -1 0 = 0, about 3 = 1");
        play("no bottle to toss again", "person 0 0, person 0 0, years " + seedOf(3, 1, 0, 1, 0) + " 1 = 0, is 3 = 0, about 3 = 1");
    }

    /** With one PERSON there is nobody to toss to, with one BOTTLE it is always that one. */
    private static void oneThere() {
        play("one person", "person 0 0, years " + seedOf(1, 1, 0, 1, 0) + " 1 = 0, is 3 = 0, about 3 = 1, 60x years 77 40, is 3 = 0");
        play("one bottle", "person 0 0, person 0 0, toss 0 1 9, fish 0 1, years " + seedOf(3, 1, 0, 1, 0) + " 1 = 0, is 2 = 1");
        play("one person who fished", "still\nperson 0 0, person 0 0, toss 0 1 9, years " + secondSeedOf(2, 1, 0, 2, 1) + " 2 = 0, of 1 3 = 1");
    }

    /** "0, 1 PERSON x mod how many TOSSES to PERSON x / 6 mod how many"; "2 BOTTLE .. is FISHED by ..", "3 .. TOSSED AGAIN". */
    private static void kindsOfYears() {
        for (int persons = 3; persons <= 5; persons++) {
            for (int kind = 0; kind <= 1; kind++) for (int to = 0; to < persons; to++) tossesInYears(persons, kind, to);
        }
        String seven = "person 0 0, person 0 0, person 0 0, person 0 0, person 0 0\n7x toss 4 0 9\n";
        for (int bottle = 0; bottle < 7; bottle++) {
            for (int person = 0; person < 5; person++) {
                int seed = secondSeedOf(2, 7, bottle, 5, person);
                CHECK.due("a seed", seed >= 0, true);
                String fished = person == 4 ? "is 2 = 127, book -1 0 = 0" : "ofBottle " + bottle + " 4 = " + (3 + person) + ", is 2 = " + (127 - (1 << bottle))
                    + ", book -1 0 = 1, book 0 1 = " + bottle;
                play("fishes " + bottle + " by " + person, seven + "years " + seed + " 2 = 0, about 3 = 8, " + fished);
            }
            play("tosses again " + bottle, seven + "fish 0 1, fish 1 2, fish 2 3, fish 3 0, fish 4 1, fish 5 2, fish 6 3, is 2 = 0, years "
                + seedOf(3, 7, bottle, 1, 0) + " 1 = 0, is 2 = " + (1 << bottle) + ", about 3 = 15, book -1 0 = 7");
        }
        play("kind 5", "years " + seedOf(5, 1, 0, 1, 0) + " 1 = 1");
        play("kind 4", "years " + secondSeedOf(4, 1, 0, 1, 0) + " 2 = 1");
        play("kind 3", "years " + seedOf(3, 1, 0, 1, 0) + " 1 = 0");
        play("kind 2", "years " + secondSeedOf(2, 1, 0, 1, 0) + " 2 = 0");
    }

    /** An x of 6 * k and its kind leaves, where k leaves TO, 6 * TO and its kind. */
    private static void tossesInYears(int persons, int kind, int to) {
        int from = (6 * to + kind) % persons;
        int seed = kind == 1 ? seedOf(1, persons, from, persons, to) : secondSeedOf(0, persons, from, persons, to);
        CHECK.due("a seed", seed >= 0, true);
        Play play = play("kind " + kind + " from " + from + " to " + to, "");
        for (int person = 0; person < persons; person++) play.on("person " + person + " 0");
        play.on("years " + seed + " " + (2 - kind) + " = 0, about 3 = 1");
        if (from == to) play.on("is 3 = 0");
        else play.on("is 3 = 1, ofBottle 0 0 = " + from + ", ofBottle 0 1 = " + to + ", ofBottle 0 2 = " + from);
    }

    /** "CORK 1 and x mod 30": 1 the least, 30 the most. */
    private static void corksOfYears() {
        for (int rest = 1; rest < 30; rest += 6) {
            play("cork of " + rest, "person 0 0, person 1 0, years " + seedOf(1, 30, rest, 2, 0) + " 1 = 0, ofBottle 0 3 = " + (1 + rest));
        }
        for (int rest : new int[] {0, 6, 24}) {
            play("cork of " + rest, "person 0 0, person 1 0, years " + secondSeedOf(0, 30, rest, 2, 1) + " 2 = 0, ofBottle 0 3 = " + (1 + rest));
        }
        int seed = -1;
        for (int i = 0; i < 10000 && seed < 0; i++) if ((i * 2 + 227) % 30 == 29 && (i * 2 + 227) % 6 == 5) seed = i;
        play("29 of 30 is a tide", "person 0 0, person 1 0, years " + seed + " 1 = 1, is 3 = 0");
    }

    /** "(each if it can be)". */
    private static void whatCantBe() {
        play("the 13th bottle", "person 0 0, person 1 0\n12x toss 0 1 9\nyears " + seedOf(1, 2, 1, 2, 0) + " 1 = 0, is 3 = 12, about 3 = 13");
        play("the 12th bottle", "person 0 0, person 1 0\n11x toss 0 1 9\nyears " + seedOf(1, 2, 1, 2, 0) + " 1 = 0, is 3 = 12, ofBottle 11 0 = 1");
        play("fished from elsewhere", "person 0 0, person 1 0, toss 0 1 9, years " + secondSeedOf(2, 1, 0, 2, 1) + " 2 = 0, is 2 = 1, book -1 0 = 0");
        play("tossed again, but it is afloat", "person 0 0, person 1 0, toss 0 1 9, years " + seedOf(3, 1, 0, 1, 0) + " 1 = 0, is 2 = 1, ofBottle 0 2 = 0");
    }

    /** "4, 5 a TIDE (if it can pass)". */
    private static void yearsAtTheEnd() {
        int seed = seedOf(5, 1, 0, 1, 0);
        play("at 9998", "166x tide 60\ntide 38, years " + seed + " 1 = 9999, years " + seed + " 1 = 9999, about 3 = 30, undo = 29, is 0 = 9999, undo = 28, is 0 = 9998");
        play("as many as can", "166x tide 60\ntide 37, years 0 40 = 9999, is 0 = 9999");
    }

    /** "It is one STEP: TIDE." */
    private static void oneStep() {
        play("one step", """
            person 0 0, person 4 9, person 0 5
            years 321 40, about 3 = 1
            years 4321 40, about 3 = 2
            years 17 1, about 3 = 3
            undo = 2, undo = 1, undo = 0, is 0 = 0, is 1 = 227, is 3 = 0, book -1 0 = 0
            """);
        play("tides of years by the text that rules", """
            person 0 0, person 1 9, toss 0 1 99
            text: wears 7;comes 0; = 0
            by 0, years 0 1 = 1, ofBottle 0 3 = 92, ofBottle 0 4 = 0, is 1 = 27682
            """);
        play("tides of years draw x as by hand", """
            person 0 0, person 1 9, toss 0 1 9
            years 0 1 = 1       # x is 227, then 13085, of which 5 is drawn
            ofBottle 0 4 = 1, is 1 = 27682
            """);
    }

    /** "AN IMAGE: all as it is, but the tape and the latest FAULT. BACK: all is so again." */
    private static void imageOfAll() {
        String all = """
            is 0 = 2, is 1 = 13085, is 2 = 1, is 3 = 2, about 0 = 3, about 1 = 2, about 2 = 1, about 3 = 5, about 4 = 1, about 5 = 2, about 6 = 1
            of 0 0 = 0, of 1 1 = 9, of 2 0 = 1, of 2 3 = 2, told 0 9 = 5, told 2 3 = 3, ofBottle 0 3 = 7, ofBottle 0 6 = 7, ofBottle 0 7 = 1
            ofBottle 1 4 = 5, book -1 0 = 1, book 0 1 = 1, tossed 1 = 4, tossed 0 = 534, likely 4 1 1 0 = 3, likely 4 1 1 1 = 10
            clear 1 = 2, reads 11 = 2, sorters 3 = 2, sorter 3 2 = 1, orders 3 = 3, sure 3 2 1 = 1, whose = 3
            """;
        play("image", """
            person 0 0, person 4 9, person 1 3, current 0 9 5
            toss 0 1 9 = 0, toss 0 1 9 = 1
            text: wears 1;comes luck-2; = 0
            text: comes luck-2; = 1
            by 0, tide 1, by 1, undo, tide 1, fish 1 2, tide 1 = 0
            found 5 2, odds 3 2, code 1, code 11, halves 1 2, writes 2 1, said 0 7
            """).on(all).on("image = 2").on("""
            person 9 9, current 0 9 6, current 2 3 4
            text: comes 1; = 2
            by 2, again 1, toss 1 2 9, tide 9, years 7 40
            found -1 0, found 1 1, found 2 2, odds 0 0, code -1, code 5, halves 0 1, halves 0 2, writes 0 1, writes 0 2, said -1 0, said 0 1, said 1 1
            back = 2
            """).on(all).on("undo = 4, is 0 = 1, is 1 = 227, undo = 3, of 2 3 = 0, back = 2").on(all);
    }

    /** What is told of ODDS and SAID is so again, each number of it. */
    private static void imageOfSayings() {
        play("sayings", """
            still
            person 0 0, person 9 0, toss 0 1 9, toss 1 0 9
            text: comes 2+from; = 0
            odds 3 4, said 0 2, said 1 3, whose = 1, likely 1 0 8 0 = 0, likely 0 0 2 0 = 39, likely 0 0 2 1 = 100
            image = 0
            odds 3 0, said -1 0, said 1 2, said 0 3, whose = 0, likely 0 0 2 0 = 51
            back = 0, whose = 1, likely 0 0 2 0 = 39, about 6 = 2
            odds 0 4, said -1 0, said 0 3, whose = 0, back = 0, whose = 1, likely 0 0 2 0 = 39
            """);
    }

    private static void allButTheTape() {
        play("the tape", """
            feed 1 2 3 4 5 = 20
            image = 0
            feed 1 2 3 4 5 = 40
            back = 0, about 7 = 40, end 40 = 40
            end 0 = 0, image = 0, feed 1952016483 540094523 0 0 0 = 20, end 7 = 7, back = 0, about 7 = 7
            """);
        play("the latest fault", """
            image = 0
            text: x = -1
            back = 0, fault 0 = 1, fault 1 = 0
            text: tide 1; = 0
            image = 0
            text: tide 0; = -1
            back = 0, fault 0 = 2, fault 1 = 5, about 1 = 1
            text: tide 2; = 1
            fault 0 = 0, fault 1 = -1, back = 0, fault 0 = 0, about 1 = 1
            """);
    }

    /** "BACK to THE IMAGE (it stays): TIDE." */
    private static void theImageStays() {
        play("it stays", """
            back = 0, person 0 0, back = 0, about 0 = 0
            person 0 0, person 1 0, tide 9, image = 9, about 3 = 9
            tide 60, back = 9, about 3 = 9, about 0 = 2
            undo = 8, is 0 = 8, back = 9, toss 0 1 9 = 0, back = 9, is 3 = 0, back = 9
            tide 1, image = 10, tide 5, back = 10, undo = 9, is 0 = 9, back = 10, about 3 = 10
            """);
        play("thirty steps in it", """
            tide 35, image = 35, about 3 = 30
            tide 60, back = 35, about 3 = 30, 30x undo, is 0 = 5, undo = -1
            tide 7, back = 35, undo = 29, is 0 = 34, back = 35, 30x undo, is 0 = 5
            """);
    }

    /** "0 PERSONS, 1 TEXTS, 2 THE TEXT (NONE), 3 STEPS .., 4 FOUND, 5 CODES, 6 SAID, 7 bytes of the tape. -2 for others." */
    private static void about() {
        play("about", """
            about -1 = -2, about 8 = -2, about 2 = -1
            6x person 1 1, about 0 = 6
            text:  = 0
            text: tide 1; = 1
            about 1 = 2, by 0, about 2 = 0, by 1, about 2 = 1, by -1, about 2 = -1
            2x toss 0 1 9, about 3 = 2
            3x found 1 1, about 4 = 3
            code 1, code 2, code 3, code 4, about 5 = 4
            5x said 1 1, about 6 = 5
            feed 0 0 0 0 0, about 7 = 20, end 6, about 7 = 6
            """);
    }
}
