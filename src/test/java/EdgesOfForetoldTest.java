/** Section III, sentence by sentence: what is foretold, what ends, drifts, meets and is handed on, where from. */
public final class EdgesOfForetoldTest {
    private static final Check CHECK = new Check("EdgesOfForetoldTest");

    public static void main(String[] args) {
        foretoldTides();
        foretoldThatCanPass();
        foretoldOfEach();
        endsInSixty();
        endsOfEach();
        endsAtTheEnd();
        drifts();
        driftsFromNowOn();
        soonest();
        soonestWaits();
        soonestOfItself();
        soonestFarAndNever();
        relayOfFour();
        relayLowest();
        relayFewestBetween();
        relayWaits();
        relayLegs();
        relayLegsBetween();
        relayToOthers();
        sixFound();
        foundTides();
        whereFrom();
        CHECK.close();
    }

    private static Play play(String what, String lines) {
        return Play.of(CHECK, what, lines);
    }

    /** "FORETOLD behind n TIDES (1 .. 60 ..), nothing else being done: a BOTTLE." */
    private static void foretoldTides() {
        play("foretold", """
            person 0 0, person 5 9, toss 0 1 99
            foretold 0 0 0 = -1, foretold 61 0 0 = -1, foretold -1 0 0 = -1
            foretold 1 0 0 = 1, foretold 1 0 1 = 98, foretold 1 0 2 = 0
            foretold 2 0 0 = 4, foretold 3 0 0 = 4, foretold 4 0 0 = 5, foretold 4 0 1 = 95, foretold 4 0 2 = 1
            foretold 60 0 0 = 5, foretold 60 0 1 = 95, foretold 60 0 2 = 1
            is 0 = 0, is 1 = 227, is 2 = 1, ofBottle 0 3 = 99, book -1 0 = 0, about 3 = 1, undo = 0
            """);
        play("59 and 60", """
            still
            person 0 0, person 5 9, toss 0 1 60, toss 0 1 61
            foretold 59 0 1 = 1, foretold 59 0 2 = 0, foretold 60 0 1 = 0, foretold 60 0 2 = 2, foretold 60 1 1 = 1, foretold 60 1 2 = 0
            """);
        play("by the text that rules", """
            person 0 0, person 1 9, toss 0 1 99
            text: comes 0;wears 9-since; = 0
            foretold 1 0 2 = 1, by 0, foretold 1 0 2 = 0, foretold 1 0 1 = 90, foretold 2 0 1 = 82
            """);
    }

    /** "(1 .. 60; those that can pass)" */
    private static void foretoldThatCanPass() {
        play("the last ones", """
            166x tide 60
            person 0 0, person 9 0
            tide 36, is 0 = 9996, toss 0 1 99
            foretold 1 0 0 = 1, foretold 3 0 1 = 96, foretold 4 0 1 = 96, foretold 60 0 1 = 96, foretold 60 0 0 = 4
            tide 3, foretold 1 0 1 = 96, foretold 60 0 0 = 4, foretold 60 0 2 = 0, foretold 0 0 0 = -1, foretold 61 0 0 = -1
            """);
    }

    /** Of a BOTTLE that came, sank, is kept or afloat; "NONE for others". */
    private static void foretoldOfEach() {
        play("each", """
            person 0 0, person 1 9, person 1 0, person 9 0
            toss 0 1 9, toss 0 2 1, toss 0 2 9, toss 0 3 99
            tide 1 = 1, fish 2 2 = 1
            foretold 60 0 2 = 1, foretold 60 0 0 = 1, foretold 60 0 1 = 8
            foretold 60 1 2 = 2, foretold 60 1 0 = 1, foretold 60 1 1 = 0
            foretold 60 2 2 = 5, foretold 60 2 0 = 1, foretold 60 2 1 = 8
            foretold 1 3 2 = 0, foretold 1 3 0 = 4, foretold 1 3 1 = 97
            foretold 1 4 0 = -1, foretold 1 -1 0 = -1, foretold 1 0 3 = -1, foretold 1 0 -1 = -1
            """);
    }

    /** "ENDS: in how many TIDES (1 .. 60) a BOTTLE afloat isn't afloat any more first ..; none." */
    private static void endsInSixty() {
        play("sinks", """
            still
            person 0 0, person 5 9, toss 0 1 1, toss 0 1 2, toss 0 1 59, toss 0 1 60, toss 0 1 61, toss 0 1 99
            ends 0 = 1, ends 1 = 2, ends 2 = 59, ends 3 = 60, ends 4 = -1, ends 5 = -1
            is 0 = 0, ofBottle 0 3 = 1, about 3 = 6
            tide 1, ends 4 = 60, ends 0 = -1
            """);
        play("comes", """
            person 0 0, person 1 9, person 4 9, toss 0 1 99, toss 0 2 99
            ends 0 = 1, ends 1 = 2
            """);
        play("never", """
            still
            person 0 0, person 5 9, toss 0 1 1
            text: wears 0; = 0
            by 0, ends 0 = -1
            """);
    }

    /** "NONE: none, and for others (not afloat)." */
    private static void endsOfEach() {
        play("each", """
            person 0 0, person 1 9, person 1 0
            toss 0 1 9, toss 0 2 1, toss 0 2 9
            ends -1 = -1, ends 3 = -1
            tide 1 = 1, fish 2 2 = 1
            ends 0 = -1, ends 1 = -1, ends 2 = -1
            again 2, ends 2 = 8
            """);
    }

    /** No more TIDES than can pass. */
    private static void endsAtTheEnd() {
        play("at the end", """
            still
            166x tide 60
            person 0 0, person 5 9, tide 30, toss 0 1 9, toss 0 1 10
            is 0 = 9990, ends 0 = 9, ends 1 = -1
            tide 9, toss 0 1 1, ends 2 = -1, ends 1 = -1
            """);
    }

    /** "DRIFT: the PLACE from one behind n TIDES (0 .. 60) from now on." */
    private static void drifts() {
        play("drift", """
            drift 0 0 = 0, drift 9 0 = 9, drift 7 0 = 7
            drift 0 1 = 1, drift 9 1 = 0, drift 9 2 = 3, drift 9 3 = 3, drift 9 4 = 4
            drift 0 59 = 0, drift 0 58 = 7, drift 0 60 = 0, drift 3 60 = 3
            drift 0 61 = -1, drift 0 -1 = -1, drift -1 0 = -1, drift 10 0 = -1, drift 10 1 = -1
            current 2 3 8, drift 9 3 = 8, drift 9 2 = 3
            """);
    }

    private static void driftsFromNowOn() {
        play("from now on", """
            tide 1, drift 9 1 = 2, drift 9 0 = 9, drift 9 2 = 2, drift 9 3 = 3
            tide 1, drift 9 1 = 9, drift 9 2 = 0
            tide 1, drift 9 1 = 0
            undo, drift 9 1 = 9
            """);
    }

    /** "the fewest TIDES in all (1 .. 60) by which it is AT the PLACE of another one .. (w and those it drifts, one at least)". */
    private static void soonest() {
        play("by the currents at first", """
            person 0 0, person 1 0, person 4 0, person 5 0, person 0 0
            soonest 0 1 0 = 1, soonest 0 1 1 = 0
            soonest 0 2 0 = 2, soonest 0 2 1 = 0
            soonest 0 3 0 = 4, soonest 0 3 1 = 0
            soonest 0 4 0 = 3, soonest 0 4 1 = 2
            tide 1
            soonest 0 1 0 = 3, soonest 0 1 1 = 1      # kept for one or two: the least
            soonest 0 2 0 = 3, soonest 0 2 1 = 0
            about 3 = 1, is 3 = 0
            soonest 0 5 0 = -1, soonest 5 0 0 = -1, soonest -1 0 0 = -1, soonest 0 -1 0 = -1, soonest 0 1 2 = -1, soonest 0 1 -1 = -1
            """);
    }

    /** "kept w TIDES (0 .. 9)", "of like ones the least w". */
    private static void soonestWaits() {
        play("of like ones", "person 0 0, person 3 0, current 0 0 0, soonest 0 1 0 = 2, soonest 0 1 1 = 0");
        play("one", "still\nperson 0 0, person 5 0, current 0 0 9, current 1 0 5, current 2 0 9, soonest 0 1 0 = 2, soonest 0 1 1 = 1");
        play("two", "still\nperson 0 0, person 5 0, current 0 0 9, current 1 0 9, current 2 0 5, soonest 0 1 0 = 3, soonest 0 1 1 = 2");
        play("none", "still\nperson 0 0, person 5 0, current 0 0 5, current 1 0 9, current 2 0 9, soonest 0 1 0 = 1, soonest 0 1 1 = 0");
        play("one TIDE sooner", """
            still
            person 0 0, person 5 0, current 0 0 1, current 1 1 2, current 2 2 5, soonest 0 1 0 = 3, soonest 0 1 1 = 0
            current 1 0 5, soonest 0 1 0 = 2, soonest 0 1 1 = 1
            """);
        play("longer kept, sooner there", """
            still
            person 0 0, person 9 0
            current 0 0 1, current 1 1 2, current 2 2 3, current 0 3 4, current 1 4 9    # five TIDES from 0 by 0
            current 1 0 6, current 2 6 9                                                 # two from 0 by 1
            soonest 0 1 0 = 3, soonest 0 1 1 = 1
            tide 1, soonest 0 1 0 = 2, soonest 0 1 1 = 0
            """);
    }

    /** "of another one or of itself": also AT its own PLACE it must drift for one. */
    private static void soonestOfItself() {
        play("it stays", "still\nperson 4 0, person 4 0, soonest 0 0 0 = 1, soonest 0 0 1 = 0, soonest 0 1 0 = 1, soonest 0 1 1 = 0");
        play("at first", "person 0 0, soonest 0 0 0 = 3, soonest 0 0 1 = 2, tide 1, soonest 0 0 0 = 2, soonest 0 0 1 = 1, tide 1, soonest 0 0 0 = 1");
        Play around = play("around", "person 0 0");
        for (int place = 0; place < 10; place++) around.on("current 2 " + place + " " + (place + 1) % 10);
        around.on("soonest 0 0 0 = 6, soonest 0 0 1 = 0");
    }

    /** "never": and what takes as long as can be. */
    private static void soonestFarAndNever() {
        play("never", "still\nperson 0 0, person 1 0, soonest 0 1 0 = -1, soonest 0 1 1 = -1, soonest 1 0 0 = -1");
        Play line = play("far", "still\nperson 0 0, person 9 0");
        for (int place = 0; place < 9; place++) line.on("current 0 " + place + " " + (place + 1));
        line.on("soonest 0 1 0 = 25, soonest 0 1 1 = 0, soonest 1 0 0 = -1, tide 1, soonest 0 1 0 = 27, soonest 0 1 1 = 0");
    }

    /** By 0 one PLACE on, by 1 one back: a BOTTLE that nobody keeps comes to the next PLACE and no further. */
    private static Play chain(String what, String lines) {
        Play chain = play(what, "still");
        for (int place = 0; place < 5; place++) chain.on("current 0 " + place + " " + (place + 1) + ", current 1 " + (place + 1) + " " + place);
        return chain.on(lines);
    }

    /** "by some between (or none ..)": four of six at most; "in how many TIDES (i NONE), the i-th PERSON". */
    private static void relayOfFour() {
        chain("by four", """
            person 0 0, person 5 0, person 4 0, person 3 0, person 2 0, person 1 0
            relay 0 1 -1 = 13, relay 0 1 0 = 5, relay 0 1 1 = 4, relay 0 1 2 = 3, relay 0 1 3 = 2, relay 0 1 4 = -2
            relay 1 0 -1 = 14, relay 1 0 0 = 2, relay 1 0 3 = 5, relay 1 0 4 = -2
            relay 0 2 -1 = 10, relay 0 2 2 = 3, relay 0 2 3 = -2
            relay 0 5 -1 = 1, relay 0 5 0 = -2
            soonest 0 1 0 = -1, soonest 0 5 0 = 1, about 3 = 0, is 3 = 0
            """);
        chain("one is missing", """
            person 0 0, person 5 0, person 4 0, person 3 0, person 1 0
            relay 0 1 -1 = -2, relay 0 1 0 = -2, relay 0 3 -1 = -2
            person 2 0, relay 0 1 -1 = 13, relay 0 1 2 = 3
            """);
        play("nobody at 0", """
            still
            current 0 4 0, current 0 0 9, current 1 0 9, current 2 0 7
            person 4 0, person 7 0, person 6 0, relay 0 1 -1 = -2
            person 0 0, relay 0 1 -1 = 3, relay 0 1 0 = 3
            """);
    }

    /** "of like ones .. the lowest first one, then the next, ..". */
    private static void relayLowest() {
        chain("the lowest of each", """
            person 0 0, person 3 0, person 2 0, person 1 0, person 1 0, person 2 0
            relay 0 1 -1 = 7, relay 0 1 0 = 3, relay 0 1 1 = 2, relay 0 1 2 = -2
            """);
        chain("the lowest of each", """
            person 1 0, person 2 0, person 0 0, person 3 0, person 1 0, person 2 0
            relay 2 3 -1 = 7, relay 2 3 0 = 0, relay 2 3 1 = 1
            """);
        String ways = """
            still
            current 0 0 1, current 1 0 2, current 2 0 9
            current 0 1 9, current 1 1 9, current 2 1 3
            current 0 2 4, current 1 2 9, current 2 2 9
            current 0 3 9, current 1 3 9, current 2 3 8
            current 0 4 9, current 1 4 9, current 2 4 8
            person 0 0, person 8 0
            """;
        // One way is by 1 and 3, the other by 2 and 4; each takes six TIDES.
        play("the first one counts first", ways).on("person 1 0, person 2 0, person 4 0, person 3 0, relay 0 1 -1 = 6, relay 0 1 0 = 2, relay 0 1 1 = 5, relay 0 1 2 = -2");
        play("the first one counts first", ways).on("person 2 0, person 1 0, person 3 0, person 4 0, relay 0 1 -1 = 6, relay 0 1 0 = 2, relay 0 1 1 = 5");
        play("one way", ways).on("person 1 0, person 2 0, person 4 0, relay 0 1 -1 = 6, relay 0 1 0 = 3, relay 0 1 1 = 4");
        play("the other way", ways).on("person 1 0, person 2 0, person 3 0, relay 0 1 -1 = 6, relay 0 1 0 = 2, relay 0 1 1 = 4");
        play("no way", ways).on("person 1 0, person 4 0, relay 0 1 -1 = -2");
    }

    /** "the fewest TIDES in all ..; of like ones the fewest between". */
    private static void relayFewestBetween() {
        Play line = play("none rather than one", "still\nperson 0 0, person 5 0, person 3 0, person 2 0");
        for (int place = 0; place < 9; place++) for (int tide = 0; tide < 3; tide++) line.on("current " + tide + " " + place + " " + (place + 1));
        line.on("relay 0 1 -1 = 5, relay 0 1 0 = -2");
        play("one rather than two", """
            still
            current 0 0 1, current 1 1 2, current 2 2 0, current 0 2 3
            person 0 0, person 3 0, person 1 0, person 2 0
            relay 0 1 -1 = 4, relay 0 1 0 = 3, relay 0 1 1 = -2
            """);
        play("one rather than none, if it is sooner", """
            still
            current 0 0 1, current 1 1 2, current 2 2 3, current 0 3 4, current 1 4 5, current 2 5 8
            current 2 1 8
            person 0 0, person 8 0
            relay 0 1 -1 = 6, relay 0 1 0 = -2
            person 1 0
            relay 0 1 -1 = 3, relay 0 1 0 = 2, relay 0 1 1 = -2
            """);
    }

    /** "each keeps it, from the TIDE on behind which it has it (the first from now on), 0 to 9 TIDES". */
    private static void relayWaits() {
        String[] due = {"3", "2", "1"};
        for (int now = 0; now < 3; now++) {
            Play play = play("the first from now on", "still\nperson 0 0, person 5 0, current 0 0 9, current 1 0 9, current 2 0 5");
            if (now > 0) play.on("tide " + now);
            play.on("relay 0 1 -1 = " + due[now] + ", relay 0 1 0 = -2");
        }
        play("the next one too", """
            still
            current 0 0 1, current 1 0 9, current 2 0 9
            current 0 1 5, current 1 1 9, current 2 1 9
            person 0 0, person 5 0, person 1 0
            relay 0 1 -1 = 4, relay 0 1 0 = 2
            tide 1, relay 0 1 -1 = 6
            tide 1, relay 0 1 -1 = 5
            """);
    }

    /** "AT the PLACE of that one behind 1 to 20 TIDES more": of 7 by 2 alone, then by 0 behind 20, or by 1 behind 21. */
    private static Play twentyOn(String what, int last) {
        Play line = play(what, "still\nperson 0 0, person 8 0");
        for (int place = 0; place < 7; place++) line.on("current 2 " + place + " " + (place + 1));
        return line.on("current " + last + " 7 8");
    }

    private static void relayLegs() {
        twentyOn("20", 0).on("soonest 0 1 0 = 22, relay 0 1 -1 = 22, relay 0 1 0 = -2");
        twentyOn("21", 1).on("soonest 0 1 0 = 23, relay 0 1 -1 = -2").on("person 4 0, relay 0 1 -1 = 23, relay 0 1 0 = 2, relay 0 1 1 = -2");
        play("1", "still\nperson 4 0, person 4 0, relay 0 1 -1 = 1, relay 1 0 -1 = 1");
    }

    /** The same to one between, who has it from there on; each way leads from 8 to 9. */
    private static void relayLegsBetween() {
        for (int last = 0; last <= 1; last++) {
            twentyOn("to 8 by " + last, last).on("current 0 8 9, current 1 8 9, current 2 8 9, person 9 0")
                .on("soonest 0 2 0 = " + (23 + last) + ", relay 0 2 -1 = " + (last == 0 ? "23, relay 0 2 0 = 1" : "-2"));
        }
    }

    /** "-2: never, there is none such, and for others." */
    private static void relayToOthers() {
        play("others", """
            relay 0 1 -1 = -2
            person 0 0, person 1 0
            relay 0 0 -1 = -2, relay 0 2 -1 = -2, relay 2 0 -1 = -2, relay -1 0 -1 = -2, relay 0 -1 -1 = -2
            relay 0 1 -1 = 1, relay 0 1 -2 = -2, relay 0 1 0 = -2, relay 0 1 1 = -2, relay 0 1 6 = -2
            """);
    }

    /** "FOUND (6 at most ..)": "none any more"; "-2 for others, or if there are 6". */
    private static void sixFound() {
        play("six", """
            found -1 0 = 0
            found 7 60 = 1, found 7 60 = 2, found 7 60 = 3, found 7 60 = 4, found 7 60 = 5, about 4 = 5
            found 10 60 = -2, found 7 61 = -2, found 7 0 = -2, found -2 60 = -2
            found 7 60 = 6, found 7 60 = -2, found 0 1 = -2, about 4 = 6, tossed 0 = 128, tossed 1 = 3
            found -1 -1 = 0, 5x found 7 60, found 0 1 = 6, tossed 0 = 128, tossed 1 = 1
            found -1 -1 = 0, 5x found 7 60, found 1 1 = 6, tossed 0 = 0, tossed 1 = 0
            found -1 -1 = 0, about 4 = 0, tossed 0 = 1023, tossed 1 = 30, found -1 60 = 0, found 7 1 = 1
            """);
    }

    /** "so many TIDES (1 .. 60) behind the one it was TOSSED". */
    private static void foundTides() {
        play("1", "found 0 1 = 1, tossed 0 = 641, tossed 1 = 3");
        play("2", "found 5 2 = 1, tossed 0 = 22, tossed 1 = 3");
        play("59", "found 7 59 = 1, tossed 0 = 385, tossed 1 = 3    # from 7 by 0, 8 by 1 and 0 by 2");
        play("60", "found 9 60 = 1, tossed 0 = 512, tossed 1 = 3");
        play("not from now on", "tide 1, found 0 1 = 1, tossed 0 = 641, tossed 1 = 3");
    }

    /** "PLACES and TIDES mod 3 from which it would be so": of all that was FOUND. */
    private static void whereFrom() {
        play("of all", """
            tossed 0 = 1023, tossed 1 = 30, tossed -1 = -1, tossed 2 = -1
            found 5 2, found 6 3, tossed 0 = 4, tossed 1 = 1
            found 6 1, tossed 0 = 0, tossed 1 = 0
            """);
        play("by the currents as told", "still\nfound 5 60, tossed 0 = 32, tossed 1 = 3, current 0 4 5, tossed 0 = 48, tossed 1 = 6, current 1 5 6, tossed 0 = 0");
        play("not all TIDES mod 3", "current 0 4 4, current 1 4 5, found 4 1, tossed 0 = 26, tossed 1 = 4    # 3 and 4 by 0, 1 by 1, 4 by 2");
    }
}
