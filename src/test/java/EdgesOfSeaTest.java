/** Section I of the document, sentence by sentence: places, persons, bottles, tides, steps, the book. */
public final class EdgesOfSeaTest {
    private static final Check CHECK = new Check("EdgesOfSeaTest");

    public static void main(String[] args) {
        aNewObject();
        fiveHundredAndTwelveCalls();
        currentsAtFirst();
        currentsByTide();
        currentsTold();
        sixPersons();
        twelveBottles();
        allThatAreThereCount();
        corks();
        tossed();
        fished();
        tossedAgain();
        howItIs();
        below();
        belowByLaw();
        anewBehindEachDraw();
        noDraw();
        corkAndWears();
        sankAheadOfComing();
        byNumber();
        lastTide();
        tidesByHand();
        CHECK.close();
    }

    private static Play play(String what, String lines) {
        return Play.of(CHECK, what, lines);
    }

    /** "An empty sea; THE IMAGE is this." */
    private static void aNewObject() {
        String empty = """
            is 0 = 0, is 1 = 227, is 2 = 0, is 3 = 0
            about 0 = 0, about 1 = 0, about 2 = -1, about 3 = 0, about 4 = 0, about 5 = 0, about 6 = 0
            book -1 0 = 0, ledger 0 = 0, ledger 1 = 0, ledger 2 = 0
            tossed 0 = 1023, tossed 1 = 30, clear 0 = 1, clear 1 = -1, reads 1 = 0, sorters 8 = 1, orders 8 = 40320
            whose = 0, luckiest = -1, eldest = -1, crowd = -1, empty = 1023, told 0 9 = 0, told 1 9 = 2, told 2 9 = 9
            of 0 0 = -1, ofBottle 0 0 = -2, foretold 1 0 0 = -1, ends 0 = -1
            """;
        play("a new object", empty).on("about 7 = 0, fault 0 = -1, fault 1 = -1, undo = -1, by 0 = 0, played 0 = -2");
        play("back to a new object", """
            person 0 0, person 1 9, toss 0 1 5, tide 1, fish 0 1, found 1 1, code 1, halves 0 1, writes 0 1, said 0 1
            odds 1 1, current 0 9 9, current 1 9 9, current 2 9 8
            text: comes 1; = 0
            by 0 = 1
            back = 0
            """).on(empty).on("undo = -1").on("person 3 0 = 0, likely 3 0 1 0 = 0, likely 0 0 2 0 = 0")
            .on("likely 2 0 1 0 = 1, likely 2 0 1 1 = 2");
    }

    /** "An object is used for at most 512 calls after it has been made". */
    private static void fiveHundredAndTwelveCalls() {
        play("512 calls", """
            person 0 0, person 0 0, current 0 0 0, current 1 0 0, current 2 0 0, toss 0 1 99
            text: wears 0;comes 0; = 0
            by 0
            250x tide 39 = 0
            is 0 = 9750
            200x undo
            is 0 = 9720
            48x tide 1 = 0
            is 0 = 9768
            """);
    }

    /** "at first from p by 0 to (p + 1) mod 10, by 1 to (p + 3) mod 10, by 2 to p". */
    private static void currentsAtFirst() {
        play("at first", """
            told 0 0 = 1, told 0 8 = 9, told 0 9 = 0
            told 1 0 = 3, told 1 6 = 9, told 1 7 = 0, told 1 8 = 1, told 1 9 = 2
            told 2 0 = 0, told 2 9 = 9
            """);
    }

    /** "CURRENTS: by TIDE mod 3 (0, 1, 2)": so by 0 again on TIDE 3, and by 0, 1, 2 on the last ones. */
    private static void currentsByTide() {
        play("by TIDE mod 3", """
            person 9 0, person 7 0, toss 0 1 99
            tide 1, ofBottle 0 2 = 0
            tide 1, ofBottle 0 2 = 3
            tide 1, ofBottle 0 2 = 3
            tide 1, ofBottle 0 2 = 4
            tide 1, ofBottle 0 2 = 7
            """);
        play("by TIDE mod 3 at the end", """
            person 0 0, person 9 0
            166x tide 60
            tide 36 = 0, is 0 = 9996
            toss 0 1 99 = 0
            tide 1 = 0, ofBottle 0 2 = 1
            tide 1 = 0, ofBottle 0 2 = 4
            tide 1 = 0, ofBottle 0 2 = 4
            is 0 = 9999
            """);
    }

    /** "A CURRENT told: true": of each TIDE mod 3 and PLACE it is its own. */
    private static void currentsTold() {
        play("told", """
            current 0 0 9 = 1, current 2 9 0 = 1, current 1 5 5 = 1, current 1 5 4 = 1
            told 0 0 = 9, told 2 9 = 0, told 1 5 = 4
            told 0 1 = 2, told 1 0 = 3, told 2 0 = 0, told 1 9 = 2, told 0 9 = 0, told 2 8 = 8, told 0 5 = 6, told 2 5 = 5
            about 3 = 0
            """);
    }

    /** "PERSONS 0 .. 5 (told one by one): PLACE, LUCK 0 .. 9", "NONE for others, or if there are 6". */
    private static void sixPersons() {
        play("persons", """
            person 9 9 = 0, person -1 0 = -1, person 0 10 = -1, person 0 0 = 1, person 9 0 = 2, person 0 9 = 3, person 9 9 = 4
            of 5 0 = -1
            person 5 4 = 5
            person 5 4 = -1, person 0 0 = -1, person 10 0 = -1
            about 0 = 6
            of 0 0 = 9, of 0 1 = 9, of 1 0 = 0, of 1 1 = 0, of 2 0 = 9, of 2 1 = 0, of 3 0 = 0, of 3 1 = 9, of 5 0 = 5, of 5 1 = 4
            of 5 2 = 0, of 5 3 = 0, of 6 0 = -1
            toss 0 5 1 = 0, toss 5 0 1 = 1, toss 0 6 1 = -1, toss 6 0 1 = -1
            """);
    }

    /** "BOTTLES 0 .. 11 (one by one by being TOSSED)", "(fewer than 12 there)", "or if there are 12". */
    private static void twelveBottles() {
        play("bottles", """
            person 0 0, person 5 0
            toss 0 1 9 = 0, toss 0 1 9 = 1, 9x toss 0 1 9, is 3 = 11
            ofBottle 11 0 = -2
            toss 1 0 9 = 11
            ofBottle 11 0 = 1, ofBottle 12 0 = -2, is 3 = 12, is 2 = 4095, about 3 = 12
            toss 0 1 9 = -1, is 3 = 12, about 3 = 12
            undo = 11, is 3 = 11, is 2 = 2047
            toss 0 1 9 = 11
            """);
    }

    /** The 12 that are there are so, however they are: none makes room for a new one. */
    private static void allThatAreThereCount() {
        play("twelve, however they are", """
            person 0 0, person 1 9, person 0 0
            4x toss 0 1 1, 4x toss 0 1 9, 4x toss 0 2 9
            fish 8 2, fish 9 2, fish 10 2, fish 11 2
            tide 1 = 4
            is 2 = 0, is 3 = 12, of 2 3 = 3840
            toss 0 1 9 = -1
            """);
    }

    /** "CORK 0 .. 99", TOSSED by "CORK 1 .. 99". */
    private static void corks() {
        play("corks", """
            person 0 0, person 0 0
            toss 0 1 0 = -1, toss 0 1 100 = -1, toss 0 1 -1 = -1, is 3 = 0
            toss 0 1 1 = 0, toss 0 1 99 = 1
            ofBottle 0 3 = 1, ofBottle 1 3 = 99
            tide 1, ofBottle 0 3 = 0, ofBottle 1 3 = 98
            tide 1, ofBottle 0 3 = 0
            """);
    }

    /** "TOSSED by FROM TO an unlike PERSON ..: a new BOTTLE afloat AT the PLACE of FROM". */
    private static void tossed() {
        play("tossed", """
            person 4 0, person 4 9, person 7 0
            toss 0 0 9 = -1, toss 2 2 9 = -1, toss 0 3 9 = -1, toss 3 0 9 = -1, toss -1 0 9 = -1, toss 0 -1 9 = -1
            is 3 = 0, about 3 = 0
            tide 2
            toss 0 1 9 = 0      # an unlike one at the same place
            ofBottle 0 0 = 0, ofBottle 0 1 = 1, ofBottle 0 2 = 4, ofBottle 0 3 = 9, ofBottle 0 4 = 0, ofBottle 0 5 = 2
            toss 2 1 7 = 1, ofBottle 1 2 = 7
            book -1 0 = 0, of 1 2 = 0, is 1 = 227, is 0 = 2
            """);
    }

    /** "FISHED: a BOTTLE afloat by a PERSON at whose PLACE it is, not FROM: it keeps it; written down." */
    private static void fished() {
        play("fished", """
            person 4 0, person 4 0, person 5 0, person 4 0
            tide 3, toss 0 1 9 = 0, toss 0 2 9 = 1
            fish 0 0 = 0        # FROM
            fish 0 2 = 0        # elsewhere
            fish 0 4 = 0, fish 0 -1 = 0, fish 2 1 = 0, fish -1 1 = 0
            about 3 = 5, book -1 0 = 0
            fish 1 3 = 1        # neither FROM nor TO
            ofBottle 1 4 = 6, ofBottle 1 2 = 4, of 3 3 = 2, of 3 2 = 0
            fish 1 1 = 0, fish 1 3 = 0
            fish 0 1 = 1        # TO
            ofBottle 0 4 = 4, of 1 3 = 1, of 1 2 = 0, is 2 = 0, about 3 = 7
            book -1 0 = 2, book 0 0 = 3, book 0 1 = 1, book 0 2 = 2, book 0 3 = 4
            book 1 0 = 3, book 1 1 = 0, book 1 2 = 2, book 1 3 = 4, ledger 2 = 2, ledger 0 = 0
            again 1 = 1, fish 1 0 = 0, fish 1 3 = 1, book -1 0 = 3
            """);
        play("none that came or sank can be", """
            person 0 0, person 1 9, person 1 0, toss 0 1 9, toss 0 1 1
            tide 1 = 1, ofBottle 0 4 = 1, ofBottle 1 4 = 2
            fish 0 2 = 0, fish 1 2 = 0, fish 0 1 = 0, fish 1 1 = 0
            """);
    }

    /** "TOSSED AGAIN: a BOTTLE that is kept: afloat AT that one's PLACE." */
    private static void tossedAgain() {
        play("tossed again", """
            person 0 0, person 4 0, person 1 0, toss 0 1 9 = 0
            again 0 = 0, again 1 = 0, again -1 = 0, about 3 = 1
            tide 1, fish 0 2 = 1
            tide 2, ofBottle 0 2 = 1, ofBottle 0 3 = 8
            again 0 = 1
            ofBottle 0 0 = 0, ofBottle 0 1 = 1, ofBottle 0 2 = 1, ofBottle 0 3 = 8, ofBottle 0 4 = 0, ofBottle 0 5 = 0
            of 2 3 = 0, book -1 0 = 1, about 3 = 6
            again 0 = 0, about 3 = 6
            """);
        play("none that came or sank can be", """
            person 0 0, person 1 9, toss 0 1 9, toss 0 1 1
            tide 1 = 1, again 0 = 0, again 1 = 0, about 3 = 3
            """);
    }

    /** "0 afloat, 1 come, 2 sunk, 3 and more: kept by PERSON 0 and more". */
    private static void howItIs() {
        play("how it is", """
            person 0 0, person 0 0, person 0 0, person 0 0, person 0 0, person 0 0
            12x toss 1 2 9
            fish 0 0 = 1, ofBottle 0 4 = 3, of 0 3 = 1
            fish 11 5 = 1, ofBottle 11 4 = 8, of 5 3 = 2048
            fish 10 5 = 1, of 5 3 = 3072, of 4 3 = 0
            is 2 = 1022
            again 0 = 1, ofBottle 0 4 = 0, of 0 3 = 0, is 2 = 1023
            """);
    }

    /** A seed that leaves X such that the next draw is this one of 10, on a sea where nobody is and no TIDE passes. */
    private static int seedOf(int drawn) {
        for (int seed = 0; seed < 10000; seed++) {
            int x = seed * 2 + 227;
            if (x % 6 < 4 && (x * 461 + 349) % 30637 % 10 == drawn) return seed;
        }
        return -1;
    }

    /** "a draw by 10 (X mod 10 ..): below comes: it came", "without: LUCK of TO and 1": of each draw and LUCK. */
    private static void below() {
        for (int drawn = 0; drawn < 10; drawn++) {
            for (int luck = 0; luck < 10; luck++) {
                int came = drawn <= luck ? 1 : 0;
                play("drawn " + drawn + " with luck " + luck, "years " + seedOf(drawn) + " 1 = 0\nperson 0 9, person 1 " + luck
                    + "\ntoss 0 1 9, ofBottle 0 6 = " + (luck + 1) + ", tide 1 = " + came + ", ofBottle 0 4 = " + came
                    + ", of 1 2 = " + came + ", book -1 0 = " + came + ", is 2 = " + (1 - came));
            }
        }
    }

    /** The same of each draw and each comes of a law, 0 and 10 among them: none is below 0, each is below 10. */
    private static void belowByLaw() {
        for (int drawn = 0; drawn < 10; drawn++) {
            for (int comes = 0; comes <= 10; comes++) {
                int came = drawn < comes ? 1 : 0;
                play("drawn " + drawn + " with comes " + comes, "years " + seedOf(drawn) + " 1 = 0\nperson 0 9, person 1 5\ntext: comes "
                    + comes + "; = 0\nby 0 = 1\ntoss 0 1 9, ofBottle 0 6 = " + comes + ", tide 1 = " + came + ", ofBottle 0 4 = " + came);
            }
        }
    }

    /** "X becoming (X * 461 + 349) mod 30637 behind it": also of a draw by which it does not come. */
    private static void anewBehindEachDraw() {
        Play play = play("each draw", "still\nperson 0 0, person 0 0\ntext: wears 0;comes 0; = 0\nby 0\ntoss 0 1 9\ntoss 0 1 9");
        long x = 227;
        for (int i = 0; i < 100; i++) {
            for (int bottle = 0; bottle < 2; bottle++) x = (x * 461 + 349) % 30637;
            play.on("tide 1 = 0, is 1 = " + x);
        }
        play.on("is 2 = 3, ofBottle 0 3 = 9, ofBottle 1 3 = 9");
    }

    /** It is drawn for a BOTTLE afloat AT the PLACE of TO alone. */
    private static void noDraw() {
        play("no draw elsewhere", "person 0 0, person 5 9, toss 0 1 9, tide 1 = 0, is 1 = 227, ofBottle 0 2 = 1, book -1 0 = 0");
        play("no draw of what sinks there", "person 0 0, person 1 9, toss 0 1 1, tide 1 = 0, is 1 = 227, ofBottle 0 2 = 1, ofBottle 0 4 = 2");
        play("no draw of what is kept there", "still\nperson 0 0, person 0 9, toss 0 1 9, fish 0 1 = 1, tide 9 = 0, is 1 = 227, ofBottle 0 4 = 4");
        play("no draw of what came", "still\nperson 0 0, person 0 9, toss 0 1 9, tide 1 = 1, tide 8 = 0, is 1 = 13085, of 1 2 = 1");
        play("no draw where it was tossed", "person 0 0, person 0 9, toss 0 1 9, is 1 = 227, tide 1 = 0, is 1 = 227, ofBottle 0 2 = 1");
        play("none but a tide draws", "person 0 0, person 0 9, toss 0 1 9, fish 0 1, again 0, is 1 = 227");
    }

    /** "CORK is less by wears (0 at least)": a wears of 0 takes nothing, one above CORK leaves 0. */
    private static void corkAndWears() {
        String[] rows = {"0 1 1 0", "0 99 99 0", "1 1 0 2", "1 2 1 0", "7 7 0 2", "7 8 1 0", "7 6 0 2", "98 99 1 0", "99 99 0 2", "99 1 0 2"};
        for (String row : rows) {
            String[] n = row.split(" ");
            play("wears " + n[0] + " of " + n[1], "person 0 0, person 5 0\ntext: wears " + n[0] + "; = 0\nby 0\ntoss 0 1 " + n[1]
                + ", tide 1 = 0, ofBottle 0 3 = " + n[2] + ", ofBottle 0 4 = " + n[3] + ", ledger 1 = " + Integer.parseInt(n[3]) / 2);
        }
    }

    /** "is CORK 0: it sank (written down); else, is it AT the PLACE of TO": what sinks there does not come. */
    private static void sankAheadOfComing() {
        play("sank there", """
            person 0 0, person 4 9, tide 3, toss 0 1 2 = 0, toss 0 1 3 = 1
            tide 1 = 0, ofBottle 0 3 = 1
            tide 1 = 1, ofBottle 0 2 = 4, ofBottle 0 3 = 0, ofBottle 0 4 = 2, ofBottle 1 3 = 1, ofBottle 1 4 = 1
            book -1 0 = 2, book 0 0 = 4, book 0 1 = 0, book 0 2 = 1, book 0 3 = 4, book 1 0 = 4, book 1 1 = 1, book 1 2 = 0, book 1 3 = 4
            of 1 2 = 1, is 0 = 5
            tide 1 = 0, ofBottle 0 2 = 4, ofBottle 1 2 = 4, ofBottle 1 3 = 1, book -1 0 = 2
            """);
    }

    /** "BOTTLES afloat by number, as all is then": the lower ones have drifted, worn, sunk and come by then. */
    private static void byNumber() {
        play("near by number", """
            person 0 0, person 5 0
            text: wears near*10; = -1
            fault 0 = 5
            text: comes near*5;wears cork/2; = 0
            by 0
            current 0 0 5
            toss 0 1 40 = 0, toss 0 1 40 = 1
            tide 1 = 1          # 7 is not below 5 of one, 5 is below 10 of two
            is 2 = 1, ofBottle 1 4 = 1
            tide 1, is 2 = 1
            """);
        String twoThere = """
            person 0 0, person 5 0
            text: comes 11-near*3; = 0
            by 0
            current 0 0 5
            """;
        play("what came is near no more", twoThere).on("toss 0 1 40, toss 0 1 40, tide 1 = 2");
        play("what sank is near no more", twoThere).on("toss 0 1 1, toss 0 1 40, tide 1 = 1");
        play("what is still there is near", twoThere).on("toss 1 0 40, toss 0 1 40, current 0 5 5, tide 1 = 0, is 2 = 3");
        play("what is higher has not drifted yet", twoThere).on("toss 0 1 40, toss 1 0 40, tide 1 = 0, is 2 = 3");
        play("draws by number", """
            person 0 0, person 1 7, person 1 2
            toss 0 2 9 = 0, toss 0 1 9 = 1, toss 0 1 9 = 2
            tide 1 = 2          # 7 of the first with 3; 5 and 2 with 8
            is 2 = 1, book 0 1 = 1, book 1 1 = 2, is 1 = 16759
            """);
    }

    /** "TIDE 0 .. 9999", "TIDE is one more (at 9999 none can pass)". */
    private static void lastTide() {
        play("the last tide", """
            person 0 0, person 4 9
            166x tide 60 = 0
            tide 38 = 0, is 0 = 9998
            toss 0 1 9 = 0
            tide 2 = -1, is 0 = 9998, ofBottle 0 2 = 0
            tide 1 = 0, is 0 = 9999, ofBottle 0 3 = 8, about 3 = 30
            tide 1 = -1, tide 60 = -1, is 0 = 9999, ofBottle 0 3 = 8
            toss 0 1 5 = 1, ofBottle 1 5 = 9999
            undo = 29, undo = 28, is 0 = 9998
            tide 1 = 0, is 0 = 9999
            """);
    }

    /** "TIDES pass (1 .. 60): how many BOTTLES come in them. NONE for others, or beyond 9999 (nothing is done then)." */
    private static void tidesByHand() {
        play("tides", """
            still
            person 0 9, person 0 9
            tide 0 = -1, tide 61 = -1, tide -1 = -1, is 0 = 0, about 3 = 0
            tide 1 = 0, is 0 = 1, tide 60 = 0, is 0 = 61
            toss 0 1 9, toss 0 1 9, toss 1 0 9
            tide 60 = 3, is 0 = 121
            """);
        play("how many come in all of them", """
            person 0 9, person 4 9, person 1 9
            toss 0 1 9, toss 0 2 9, toss 0 1 2
            tide 2 = 2, is 0 = 2, of 1 2 = 1, of 2 2 = 1
            """);
        play("up to the end and beyond", """
            166x tide 60
            tide 40 = -1, is 0 = 9960, about 3 = 30
            tide 39 = 0, is 0 = 9999
            """);
    }
}
