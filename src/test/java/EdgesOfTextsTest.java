/** Section II, sentence by sentence: the tape, tokens, clauses, faults, laws, and what is played. */
public final class EdgesOfTextsTest {
    private static final Check CHECK = new Check("EdgesOfTextsTest");

    public static void main(String[] args) {
        threeHundredBytes();
        highestByteFirst();
        firstBytesAlone();
        fourTexts();
        theTapeBehindText();
        latestFault();
        blanks();
        letters();
        digits();
        theLongest();
        noTokens();
        clauses();
        clauseNumbers();
        eachOnce();
        theEnd();
        leastOfOneToken();
        firstOfAll();
        eightOpen();
        openTillWhole();
        namesOfClauses();
        theTextRules();
        millions();
        cuts();
        laterAndPlaces();
        asks();
        eachName();
        near();
        limitsOfLaws();
        played();
        playedTides();
        playedFull();
        CHECK.close();
    }

    private static Play play(String what, String lines) {
        return Play.of(CHECK, what, lines);
    }

    private static void fine(String text) {
        BottledPost post = new BottledPost();
        CHECK.due(text, Tapes.read(post, text), 0);
        CHECK.due(text + " its fault", post.fault(0), 0);
        CHECK.due(text + " its place", post.fault(1), -1);
        CHECK.due(text + " is there", post.about(1), 1);
    }

    private static void fault(int what, int place, String text) {
        BottledPost post = new BottledPost();
        CHECK.due(text, Tapes.read(post, text), -1);
        CHECK.due(text + " its fault", post.fault(0), what);
        CHECK.due(text + " its place", post.fault(1), place);
        CHECK.due(text + " is not there", post.about(1), 0);
    }

    /** "NONE, and none come, if there would be more than 300." */
    private static void threeHundredBytes() {
        play("feed", """
            14x feed 1 2 3 4 5, about 7 = 280
            feed 1 2 3 4 5 = 300, about 7 = 300
            feed 1 2 3 4 5 = -1, about 7 = 300
            end 281 = 281, feed 1 2 3 4 5 = -1, about 7 = 281
            end 280 = 280, feed 1 2 3 4 5 = 300
            end 0 = 0, feed 1 2 3 4 5 = 20
            """);
        fine(" ".repeat(300));
        fine("\n".repeat(300));
        fine(" ".repeat(293) + "tide 1;");
        fine("tide 1;" + "\n".repeat(293));
        fault(1, 299, "tide 1;" + " ".repeat(292) + "x");
        fault(1, 300, "tide 1" + " ".repeat(294));
    }

    /** "Twenty bytes come behind the tape, the highest of a first". */
    private static void highestByteFirst() {
        BottledPost post = new BottledPost();
        // A sign for each of the twenty: where the one that is none stands is told by the FAULT's place.
        for (int at = 0; at < 20; at++) {
            int[] fours = {0x20202020, 0x20202020, 0x20202020, 0x20202020, 0x20202020};
            fours[at / 4] ^= 0xa0 << 24 - at % 4 * 8;
            CHECK.due("fed", post.feed(fours[0], fours[1], fours[2], fours[3], fours[4]), 20);
            CHECK.due("read", post.text(), -1);
            CHECK.due("what is none", post.fault(0), 1);
            CHECK.due("where it is", post.fault(1), at);
        }
        CHECK.due("behind the tape", post.feed(0x20202020, 0x20202020, 0x20202020, 0x20202020, 0x20202020), 20);
        CHECK.due("behind the tape", post.feed(0x78202020, 0x20202020, 0x20202020, 0x20202020, 0x20202020), 40);
        post.text();
        CHECK.due("behind the tape", post.fault(1), 20);
    }

    /** "The tape has its first n bytes alone: n. NONE, and nothing is done, if it has not so many, or n is below 0." */
    private static void firstBytesAlone() {
        play("end", """
            end 0 = 0, end 1 = -1, end -1 = -1, about 7 = 0
            feed 1953064037 540097339 0 0 0 = 20
            end 21 = -1, end -1 = -1, about 7 = 20, end 20 = 20
            end 7 = 7, end 8 = -1, about 7 = 7, end 7 = 7
            """);
        play("first bytes", "feed 1953064037 540097339 2021161080 0 0 = 20, end 7 = 7, text = 0, about 7 = 0, fault 0 = 0");
        play("not the last ones", "feed 1953064037 540097339 2021161080 0 0 = 20, end 8 = 8, text = -1, fault 0 = 1, fault 1 = 7");
        play("none", "feed 2021161080 0 0 0 0, end 0 = 0, text = 0, played 0 = -1");
    }

    /** "TEXTS 0 .. 3", "NONE: it has a FAULT; or (the tape stays) there are 4." */
    private static void fourTexts() {
        play("four texts", """
            text: = 0
            text: tide 1; = 1
            text: x = -1
            about 1 = 2
            text: wears 2; = 2
            text: tide 2; = 3
            about 1 = 4, fault 0 = 0
            text: tide 61; = -1
            about 1 = 4, about 7 = 8, fault 0 = 0, fault 1 = -1
            text: tide 3; = -1
            about 1 = 4, about 7 = 7, fault 0 = 0
            played 3 = -1, is 0 = 2, played 4 = -2, by 3 = 1, by 4 = 0, about 2 = 3
            back = 0, about 1 = 0, about 7 = 7, text = 0, about 7 = 0, played 0 = -1, is 0 = 3
            """);
    }

    /** "The tape (empty then) is a TEXT". */
    private static void theTapeBehindText() {
        play("the tape", """
            feed 1953064037 540097339 0 0 0, end 7, text = 0, about 7 = 0, end 1 = -1, end 0 = 0
            feed 1953064037 540097339 0 0 0 = 20, text = -1, about 7 = 0, fault 1 = 7
            text = 1, about 7 = 0, fault 0 = 0
            """);
    }

    /** "0 its FAULT (0 without), 1 its place (NONE without). NONE for others, and ahead of any." */
    private static void latestFault() {
        play("faults", """
            fault 0 = -1, fault 1 = -1, fault 2 = -1, fault -1 = -1
            text: tide 1;tide 61; = -1
            fault 0 = 2, fault 1 = 12, fault 2 = -1, fault -1 = -1
            text: tide 1; = 0
            fault 0 = 0, fault 1 = -1, fault 2 = -1
            text: x = -1
            fault 0 = 1, fault 1 = 0
            """);
    }

    /** "TOKENS, blanks (32, 10) aside": no other byte is one, and none stands within a TOKEN. */
    private static void blanks() {
        fine(" tide 1;");
        fine("\ntide\n1\n;\n");
        fine("   tide \n\n 1 \n ; ");
        fine("tide 1;tide 2;");
        for (char other : new char[] {0, 9, 11, 12, 13, 31, 33, 127, 128, 138, 160, 255}) fault(1, 4, "tide" + other + "1;");
        fault(1, 0, "ti de 1;");
        fine("comes 1 +2;");
        fault(1, 8, "comes 1 2;");
        fault(1, 7, "tide 1 1;");
        fault(1, 12, "comes if 1< =2 then 1 else 2 end;");
        fault(1, 12, "comes if 1>\n=2 then 1 else 2 end;");
    }

    /** "letters a .. z, A .. Z one behind the other (one TOKEN)": no sign next to them is one, small and great ones are. */
    private static void letters() {
        for (char letter : "azAZmM".toCharArray()) {
            fault(1, 0, "tide" + letter + " 1;");
            fault(1, 0, letter + "tide 1;");
            fault(1, 6, "comes tide" + letter + ";");
        }
        for (char sign : "@[`{_".toCharArray()) {
            fault(1, 4, "tide" + sign + "1;");
            fault(1, 0, sign + "tide 1;");
            fault(1, 10, "comes tide" + sign + ";");
        }
        for (String word : new String[] {"comes", "wears", "person", "current", "toss", "fish", "again", "tide"}) {
            fault(1, 0, word.substring(1));
            fault(1, 0, word.substring(0, word.length() - 1));
            fault(1, 0, word.substring(0, 1).toUpperCase() + word.substring(1));
            fault(1, 0, word + word.charAt(word.length() - 1));
            fault(1, word.length(), word);
            fault(1, word.length(), word + ";");
        }
        for (String name : new String[] {"tide", "since", "cork", "luck", "at", "from", "to", "near"}) {
            fine("comes " + name + ";");
            fine("comes(" + name + ")*" + name + ";");
            fault(1, 6, "comes " + name.toUpperCase() + ";");
            fault(1, 6, "comes " + name + "s;");
            fault(1, 6, "comes " + name.substring(1) + ";");
            fault(1, 0, name.equals("tide") ? "tides 1;" : name + " 1;");
        }
    }

    /** "digits likewise (NUMBERS, 0 .. 9999)": 0 and 9 are, the signs next to them aren't; letters end them. */
    private static void digits() {
        fine("comes 0;wears 9999;");
        fine("comes 00009999;");
        fine("comes 0000;");
        fine("comes if 1<2then 1else 2end;");
        fine("tide60;");
        fault(2, 6, "comes 10000;");
        fault(2, 6, "comes 00010000;");
        fault(2, 6, "comes 99999;");
        fault(2, 6, "comes 2147483648;");
        fault(2, 6, "comes 4294967297;");
        fault(2, 6, "comes 18446744073709551617;");
        fault(2, 6, "comes " + "9".repeat(290) + ";");
        fine("comes " + "0".repeat(290) + "1;");
        fault(1, 7, "comes 1:2;");
        fine("comes 1/2;");
        fault(1, 7, "comes 1a;");
        fault(1, 5, "comes:1;");
        play("a number with noughts ahead", "person 0 0, person 5 0, toss 0 1 99\ntext: wears 0000042; = 0\nby 0, ofBottle 0 7 = 42");
        play("9999", "person 0 0, person 5 0, toss 0 1 99\ntext: wears 9999-9900; = 0\nby 0, ofBottle 0 7 = 99");
    }

    /** "<= >= < > = # .. (the longest)". */
    private static void theLongest() {
        String[] signs = {"<=", ">=", "<", ">", "=", "#"};
        for (String sign : signs) fine("comes if 1" + sign + "2 then 1 else 2 end;");
        for (String sign : new String[] {"==", "=<", "=>", "#=", "<#", "<>", "><", "##"}) fault(1, 11, "comes if 1" + sign + "2 then 1 else 2 end;");
        for (String sign : new String[] {"<==", ">==", "<=<", "<=="}) fault(1, 12, "comes if 1" + sign + "2 then 1 else 2 end;");
        fine("comes if 1<=-2 then 1 else 2 end;");
        fine("comes if 1>-2 then 1 else 2 end;");
        fault(1, 10, "comes if 1!=2 then 1 else 2 end;");
    }

    /** "1 it can't stand there, or is none": each byte that begins no TOKEN, and each that does, where none may stand. */
    private static void noTokens() {
        for (int sign = 0; sign < 256; sign++) {
            if (sign == 32 || sign == 10) continue;
            fault(1, 7, "tide 1;" + (char) sign);
            if (sign != ';' && !(sign >= '0' && sign <= '9')) fault(1, 6, "tide 1" + (char) sign + ";");
            boolean one = sign == '(' || sign == '-' || sign >= '0' && sign <= '9';
            if (!one) fault(1, 6, "comes " + (char) sign + ";");
        }
        for (String word : "comes wears person current toss fish again by than then else end or and not".split(" ")) fault(1, 6, "comes " + word + " 1;");
        for (String word : "than then else end or and not later places if luck at from to by near since cork".split(" ")) fault(1, 0, word + " 1;");
    }

    /** "{CLAUSE}, 24 at most"; "6 the 25th CLAUSE (at its first TOKEN)". */
    private static void clauses() {
        fine("");
        fine("tide 1;".repeat(23));
        fine("tide 1;".repeat(24));
        fine("tide 1;".repeat(24) + "  \n");
        fault(6, 168, "tide 1;".repeat(25));
        fault(6, 170, "tide 1;".repeat(24) + "  tide");
        fault(6, 168, "tide 1;".repeat(24) + "tide 99");
        fault(6, 168, "tide 1;".repeat(24) + "wears");
        fine("comes 1;wears 1;" + "tide 1;".repeat(22));
        fault(6, 170, "comes 1;wears 1;" + "tide 1;".repeat(22) + "tide 1;");
        fault(1, 167, "tide 1;".repeat(23) + "tide 1");
    }

    /** "2 a NUMBER that isn't one of those told": the smallest, the largest, and what is next to them. */
    private static void clauseNumbers() {
        String[][] rows = {
            {"person ", " luck 0;", "0", "9"}, {"person 0 luck ", ";", "0", "9"},
            {"current ", " from 0 to 0;", "0", "2"}, {"current 0 from ", " to 0;", "0", "9"}, {"current 0 from 0 to ", ";", "0", "9"},
            {"toss ", " to 0 cork 1;", "0", "5"}, {"toss 0 to ", " cork 1;", "0", "5"}, {"toss 0 to 1 cork ", ";", "1", "99"},
            {"fish ", " by 0;", "0", "11"}, {"fish 0 by ", ";", "0", "5"}, {"again ", ";", "0", "11"}, {"tide ", ";", "1", "60"}};
        for (String[] row : rows) {
            int low = Integer.parseInt(row[2]);
            int high = Integer.parseInt(row[3]);
            fine(row[0] + low + row[1]);
            fine(row[0] + high + row[1]);
            fine(row[0] + "00" + high + row[1]);
            fault(2, row[0].length(), row[0] + (high + 1) + row[1]);
            fault(2, row[0].length(), row[0] + "10000" + row[1]);
            fault(2, row[0].length(), row[0] + "4294967297" + row[1]);
            if (low > 0) fault(2, row[0].length(), row[0] + (low - 1) + row[1]);
            fault(1, row[0].length(), row[0] + "-1" + row[1]);
            fault(1, row[0].length(), row[0] + "(" + high + ")" + row[1]);
            fault(1, row[0].length(), row[0] + "at" + row[1]);
            fault(1, row[0].length(), row[0]);
            fault(1, row[0].length() + 2, row[0] + low + " 1" + row[1]);
        }
    }

    /** "comes SUM ; or wears SUM ; (each once)"; "4 comes, wears for the second time (at it)". */
    private static void eachOnce() {
        fine("comes 1;wears 1;");
        fine("wears 1;comes 1;");
        fault(4, 8, "comes 1;comes 1;");
        fault(4, 8, "wears 1;wears 1;");
        fault(4, 16, "comes 1;wears 1;comes 1;");
        fault(4, 16, "comes 1;wears 1;wears 1;");
        fault(4, 17, "comes 1;tide 1;  comes");
        fine("tide 1;tide 1;again 0;again 0;person 1 luck 1;person 1 luck 1;");
    }

    /** "(of the end at the length)": also behind blanks. */
    private static void theEnd() {
        fault(1, 4, "tide");
        fault(1, 6, "tide  ");
        fault(1, 6, "tide 1");
        fault(1, 9, "tide 1 \n ");
        fault(1, 20, "comes if 1<2 then 1 ");
        fault(1, 26, "comes if 1<2 then 1 else 2");
        fault(1, 7, "comes 1");
        fault(1, 8, "comes 1+");
        fault(1, 8, "comes (1");
        fault(1, 13, "comes later 1");
        fault(1, 18, "comes later 1 than");
        fault(1, 12, "comes places");
        fault(1, 7, "comes -");
    }

    /** "of one the least". */
    private static void leastOfOneToken() {
        fault(1, 7, "person ;10000;");
        fault(1, 9, "person 1 10000;");
        fault(1, 12, "wears 1 + 1 near;");
        fault(4, 162, "wears 1;" + "tide 1;".repeat(22) + "wears 1;tide 1;");
        fault(4, 169, "wears 1;" + "tide 1;".repeat(23) + "wears 1;");
        fault(4, 169, "comes 1;" + "tide 1;".repeat(23) + "comes 1;");
        fault(1, 168, "tide 1;".repeat(24) + "near");
        fault(1, 168, "tide 1;".repeat(24) + "10000");
        fault(1, 14, "comes ((((((((not 1<2;");
        fault(1, 14, "comes --------+1;");
        fault(5, 14, "wears --------near;");
        fault(2, 14, "wears --------10000;");
        fault(1, 15, "comes --------1(;");
        fault(1, 15, "comes ((((((((1later 1 than 1;");
    }

    /** "the first as TOKENS are come to". */
    private static void firstOfAll() {
        fault(2, 5, "tide 61 x");
        fault(1, 0, "x tide 61;");
        fault(5, 6, "wears near;tide 61;");
        fault(2, 5, "tide 61;wears near;");
        fault(4, 16, "comes 1;wears 1;comes near;wears near;");
        fault(2, 8, "comes 1+10000+---------1;");
        fault(3, 14, "comes ---------1+10000;");
    }

    /** "3 the 9th of ( not later places if and - (of one ONE) that are open around one another (at it ..)". */
    private static void eightOpen() {
        for (String opener : new String[] {"(", "-", "places ", "later ", "if "}) {
            for (String inner : new String[] {"(", "-", "places ", "later ", "if "}) {
                fault(3, 6 + 8 * opener.length(), "comes " + opener.repeat(8) + inner + "1");
                fault(1, 6 + 7 * opener.length() + inner.length(), "comes " + opener.repeat(7) + inner + "x");
            }
        }
        fine("comes ((((((((1))))))));");
        fine("comes --------1;");
        fine("comes " + "places ".repeat(8) + "1;");
        fine("comes " + "later ".repeat(8) + "1" + " than 1".repeat(8) + ";");
        fine("comes " + "later 1 than ".repeat(8) + "1;");
        fine("comes " + "if 1<2 then ".repeat(8) + "1" + " else 2 end".repeat(8) + ";");
        fine("comes " + "if 1<2 then 1 else ".repeat(8) + "1" + " end".repeat(8) + ";");
        fine("comes " + "if ".repeat(8) + "1<2" + " then 1 else 2 end<3".repeat(7) + " then 1 else 2 end;");
        fine("comes if " + "not ".repeat(7) + "1<2 then 1 else 2 end;");
        fault(3, 37, "comes if " + "not ".repeat(8) + "1<2 then 1 else 2 end;");
        fault(3, 37, "comes if " + "not ".repeat(7) + "-1<2 then 1 else 2 end;");
        fault(3, 86, "comes " + "later 1 than ".repeat(6) + "--(1);");
        fault(3, 23, "comes -------if 1<2 or not 1<2 then 1 else 2 end;");
        fault(3, 24, "comes -------if 1<2 and not 1<2 then 1 else 2 end;");
        fine("comes ------if 1<2 and not 1<2 or not 1<2 then 1 else 2 end;");
    }

    /** It is open till it is whole, "later till its second is whole", and no longer; of two terms - opens nothing. */
    private static void openTillWhole() {
        fine("comes (((((((1)))))))+((((((((2))))))));");
        fault(3, 16, "comes (((((((1+((2)))))))));");
        fine("comes -------1*--------2;");
        fine("comes 1" + "-1".repeat(20) + ";");
        fine("comes (((((((1-1-1-1)))))));");
        fine("comes ((((((((1-1-1-1))))))));");
        fault(3, 16, "comes ((((((((1--1))))))));");
        fine("comes places -------1+--------1;");
        fine("comes later 1 than -------1;");
        fault(3, 26, "comes later 1 than --------1;");
        fault(3, 19, "comes later --------1 than 1;");
        fine("comes later -------1 than -------1+--------1;");
        fine("comes if 1<2 then -------1 else -------1 end+--------1;");
        fault(3, 16, "comes if --------1<2 then 1 else 2 end;");
        fault(3, 18, "comes if 1<--------2 then 1 else 2 end;");
        fault(3, 25, "comes if 1<2 then --------1 else 2 end;");
        fault(3, 32, "comes if 1<2 then 1 else --------2 end;");
        fine("comes if not 1<2 and not not not not not not not 1<2 then 1 else 2 end;");
        fault(3, 19, "comes if not -------1<2 then 1 else 2 end;");
        fine("comes if not ------1<------2 then 1 else 2 end;");
        fault(3, 21, "comes if not 1<-------2 then 1 else 2 end;");
        fine("comes if not 1<2 or -------1<2 then 1 else 2 end;");
        fine("comes --------1;wears --------1;");
    }

    /** "5 a NAME that isn't of that CLAUSE (at it)": near in wears. */
    private static void namesOfClauses() {
        fine("wears tide+since+cork+luck+at+from+to;");
        fine("comes tide+since+cork+luck+at+from+to+near;");
        fault(5, 6, "wears near;");
        fault(5, 14, "comes 1;wears near;");
        fault(5, 17, "comes near;wears near;");
        fault(5, 27, "wears if 1<2 then 1 else 2+near end;");
        fault(5, 19, "wears later 1 than near;");
        fine("wears 1;comes near;");
        fault(1, 5, "tide near;");
        fault(1, 6, "again near;");
    }

    /** "THE TEXT (told; at first none) rules.": "(NONE: none): true. False for others." */
    private static void theTextRules() {
        play("rules", """
            person 0 0, person 5 3, toss 0 1 9
            about 2 = -1, by 0 = 0, by -1 = 1, by -2 = 0
            text: comes 7; = 0
            text: wears 7; = 1
            about 2 = -1, ofBottle 0 6 = 4, ofBottle 0 7 = 1
            by 0 = 1, ofBottle 0 6 = 7, ofBottle 0 7 = 1
            by 1 = 1, ofBottle 0 6 = 4, ofBottle 0 7 = 7
            by 2 = 0, by -2 = 0, about 2 = 1, ofBottle 0 7 = 7
            by -1 = 1, about 2 = -1, ofBottle 0 6 = 4, ofBottle 0 7 = 1
            by 1 = 1
            text: comes 1;wears 2; = 2
            about 2 = 1, ofBottle 0 7 = 7
            by 2 = 1, ofBottle 0 6 = 1, ofBottle 0 7 = 2
            about 3 = 1
            """);
    }

    /** What wears, of a BOTTLE tossed on TIDE 2 from PERSON 0 AT 3 to PERSON 1 AT 8 with LUCK 4; now 5; CORK 39. */
    private static void wears(int due, String sum) {
        law(due, sum, "wears", 7);
    }

    private static void comes(int due, String sum) {
        law(due, sum, "comes", 6);
    }

    private static void law(int due, String sum, String law, int what) {
        play(law + " " + sum, "still\nperson 3 1, person 8 4, person 6 0, tide 2, toss 0 1 42, tide 3\ntext: " + law + " " + sum
            + "; = 0\nby 0 = 1, ofBottle 0 " + what + " = " + due);
    }

    /** "what is above 1000000 (below the same less) is that, at each step." */
    private static void millions() {
        wears(50, "1000*1000-9999*100-50");
        wears(49, "1000*1000-1-9999*100-50");
        wears(50, "1000*1000+1-9999*100-50");
        wears(50, "1000*1000+9999-9999*100-50");
        wears(50, "1+1000*1000-9999*100-50");
        wears(50, "9999*9999-9999*100-50");
        wears(50, "-9999*-9999-9999*100-50");
        wears(50, "1001*1000-9999*100-50");
        wears(49, "999*1001-(9999*100+50)");
        wears(50, "0-1000*1000+9999*100+150");
        wears(51, "0-1000*1000+1+9999*100+150");
        wears(50, "0-1000*1000-1+9999*100+150");
        wears(50, "0-1000*1000-9999+9999*100+150");
        wears(50, "-9999*9999+9999*100+150");
        wears(50, "9999*-9999+9999*100+150");
        wears(50, "later (1000*1000) than (-1000*1000)-9999*100-50");
        wears(50, "later (1000*1000) than -1-9999*100-50");
        wears(10, "9999*9999*9999*9999/9999/10");
        wears(10, "9999*9999/(9999*10)");
        wears(0, "9999*9999-9999*9999");
        wears(98, "1000*1000*1000/9999-2");
        wears(7, "if 9999*9999=1000*1000 then 7 else 3 end");
        wears(7, "if -9999*9999=-1000*1000 then 7 else 3 end");
        wears(7, "if 1000*1000+1=1000*1000 then 7 else 3 end");
        wears(3, "if 999*1000+999=1000*1000 then 7 else 3 end");
        wears(3, "if 999*1001=1000*1000 then 7 else 3 end");
        wears(7, "if 1000*1000/-1=-1000*1000 then 7 else 3 end");
    }

    /** "From the left; / cuts towards 0, by 0 it is 0". */
    private static void cuts() {
        wears(3, "7/2");
        wears(4, "8/2");
        wears(0, "1/2");
        wears(10, "10+-1/2");
        wears(7, "10+-7/2");
        wears(7, "10+7/-2");
        wears(13, "10+-7/-2");
        wears(0, "5/0");
        wears(0, "0/0");
        wears(9, "-5/0+9");
        wears(9, "9+5/(3-3)");
        wears(0, "0/7");
        wears(8, "7/2*2+2");
        wears(7, "2*7/2");
        wears(1, "9/3/3");
        wears(3, "9-3-3");
        wears(9, "9-(3-3)");
        wears(23, "3+4*5");
        wears(35, "(3+4)*5");
    }

    /** "later ONE than ONE (the first less the second, 0 at least)"; "PLACE of the PERSON of that number; 0 if none such is told". */
    private static void laterAndPlaces() {
        wears(1, "later 5 than 4");
        wears(0, "later 4 than 4");
        wears(0, "later 3 than 4");
        wears(9, "later 5 than -4");
        wears(0, "later -5 than -4");
        wears(1, "later -4 than -5");
        wears(3, "places 0");
        wears(8, "places 1");
        wears(6, "places 2");
        wears(0, "places 3");
        wears(0, "places 5");
        wears(0, "places 6");
        wears(0, "places -1");
        wears(0, "places 9999");
        wears(0, "places (9999*9999)");
        wears(0, "places (0-9999*9999)");
        wears(9, "places 0+places 2");
        wears(6, "places (places 0-1)");
        wears(0, "places places 0");
        play("of six", """
            person 1 0, person 2 0, person 3 0, person 4 0, person 5 0, person 7 0, toss 0 1 99
            text: wears places 5*10+places 6; = 0
            by 0, ofBottle 0 7 = 70
            """);
    }

    /** "SUM one of < <= > >= = # (unlike) SUM", "not ASK", BOTH ahead of EITHER; "of if just the SUM that is chosen". */
    private static void asks() {
        String[] signs = {"<", "<=", ">", ">=", "=", "#"};
        String[] due = {"100", "110", "001", "011", "010", "101"};
        for (int i = 0; i < 6; i++) {
            for (int a = 4; a <= 6; a++) {
                wears(due[i].charAt(a - 4) == '1' ? 7 : 3, "if " + a + signs[i] + "5 then 7 else 3 end");
                wears(due[i].charAt(a - 4) == '1' ? 3 : 7, "if not " + a + signs[i] + "5 then 7 else 3 end");
                wears(due[i].charAt(a - 4) == '1' ? 7 : 3, "if -" + (10 - a) + signs[i] + "-5 then 7 else 3 end");
            }
        }
        String[] bits = {"1<1", "1=1"};
        for (int i = 0; i < 8; i++) {
            boolean a = (i & 1) != 0, b = (i & 2) != 0, c = (i & 4) != 0;
            String x = bits[i & 1], y = bits[i >> 1 & 1], z = bits[i >> 2];
            wears(a || b && c ? 7 : 3, "if " + x + " or " + y + " and " + z + " then 7 else 3 end");
            wears(a && b || c ? 7 : 3, "if " + x + " and " + y + " or " + z + " then 7 else 3 end");
            wears(!a && b ? 7 : 3, "if not " + x + " and " + y + " then 7 else 3 end");
            wears(!a || !b ? 7 : 3, "if not " + x + " or not " + y + " then 7 else 3 end");
            wears(a && b && c ? 7 : 3, "if " + x + " and " + y + " and " + z + " then 7 else 3 end");
            wears(a || b || c ? 7 : 3, "if " + x + " or " + y + " or " + z + " then 7 else 3 end");
        }
        fault(1, 11, "comes if 1 then 2 else 3 end;");
        fault(1, 10, "comes if 1;");
        fault(1, 12, "comes if 1<2=2 then 2 else 3 end;");
        fault(1, 6, "comes not 1<2;");
        fault(1, 7, "comes 1<2;");
        fault(1, 11, "comes if (1<2) then 2 else 3 end;");
        wears(5, "if 1<2 then 5 else 9999*9999 end");
        wears(5, "if 2<1 then 9999*9999 else 5 end");
        wears(12, "if 1<2 then 5 else 6 end+7");
        wears(15, "3*if 1<2 then 5 else 6 end");
        wears(9, "-if 1<2 then 5 else 6 end+14");
    }

    /** "NAMES: tide, since (TIDES since it was TOSSED first), cork, luck (of TO), at, from, to (PERSONS)". */
    private static void eachName() {
        wears(5, "tide");
        wears(3, "since");
        wears(39, "cork");
        wears(4, "luck");
        wears(3, "at");
        wears(1, "1+from");
        wears(1, "to");
        comes(5, "tide");
        comes(3, "since");
        comes(9, "cork-30");
        comes(4, "luck");
        comes(3, "at");
        comes(1, "from+1");
        comes(1, "to");
        comes(1, "near");
        play("at the edges", """
            person 0 0, person 9 9, person 3 0, person 4 0, person 5 0, person 0 3
            166x tide 60 = 0
            tide 39
            toss 5 0 1 = 0, toss 1 5 99 = 1
            text: wears tide-9950; = 0
            text: wears since; = 1
            text: wears from*10+to; = 2
            text: wears at*10+luck; = 3
            by 0, ofBottle 0 7 = 49, by 1, ofBottle 0 7 = 0, by 2, ofBottle 0 7 = 50, ofBottle 1 7 = 15, by 3, ofBottle 0 7 = 0, ofBottle 1 7 = 93
            """);
        play("since it was tossed first", """
            still
            person 3 0, person 8 0, person 3 0
            text: wears since*9; = 0
            toss 0 1 99, fish 0 2, tide 4, again 0, by 0
            ofBottle 0 7 = 36
            toss 0 1 99 = 1, ofBottle 1 7 = 0
            tide 1, ofBottle 0 3 = 63, ofBottle 1 3 = 99, ofBottle 1 7 = 9
            """);
    }

    /** "near (how many afloat are AT that PLACE, it too, if it is afloat) in comes". */
    private static void near() {
        play("near", """
            still
            person 3 0, person 8 9, person 3 0
            text: comes near; = 0
            by 0
            toss 0 1 9, ofBottle 0 6 = 1
            toss 0 1 9, ofBottle 0 6 = 2, ofBottle 1 6 = 2
            toss 1 0 9, ofBottle 0 6 = 2, ofBottle 2 6 = 1
            toss 2 1 9, ofBottle 0 6 = 3
            fish 0 2 = 1, ofBottle 0 6 = 2, ofBottle 1 6 = 2
            fish 1 2 = 1, fish 3 0 = 1, ofBottle 0 6 = 0, ofBottle 3 6 = 0
            again 0 = 1, ofBottle 0 6 = 1, ofBottle 1 6 = 1
            """);
        play("near of what came and sank", """
            person 0 0, person 1 0
            text: comes 3*near; = 0
            by 0
            toss 0 1 1, toss 1 0 1, 2x toss 0 1 9
            tide 1 = 1          # two sink; 7 is not below 3 of one, 5 is below 6 of two
            is 2 = 4, ofBottle 0 4 = 2, ofBottle 1 4 = 2, ofBottle 3 4 = 1
            ofBottle 0 6 = 3, ofBottle 1 6 = 0, ofBottle 2 6 = 3, ofBottle 3 6 = 3
            """);
        play("near of twelve", "person 0 0, person 1 0\n12x toss 0 1 9\ntext: comes near-6; = 0\nby 0, ofBottle 0 6 = 6, ofBottle 11 6 = 6");
    }

    /** "comes (the odds of 10): 0 at least, 10 at most"; "wears: 0 at least, 99 at most"; without them LUCK and 1, and 1. */
    private static void limitsOfLaws() {
        comes(0, "0");
        comes(0, "-1");
        comes(0, "-9999*9999");
        comes(1, "1");
        comes(9, "9");
        comes(10, "10");
        comes(10, "11");
        comes(10, "9999*9999");
        wears(0, "0");
        wears(0, "-1");
        wears(0, "-9999*9999");
        wears(98, "98");
        wears(99, "99");
        wears(99, "100");
        wears(99, "9999*9999");
        play("without", """
            person 0 0, person 1 9, toss 0 1 9, toss 1 0 9, ofBottle 0 6 = 10, ofBottle 0 7 = 1, ofBottle 1 6 = 1
            text: tide 1; = 0
            by 0 = 1, ofBottle 0 6 = 10, ofBottle 0 7 = 1, ofBottle 1 6 = 1
            """);
    }

    /** "its CLAUSES but laws, in their order, as by hand; one that can't be ends it ..: its number among all CLAUSES (from 0)". */
    private static void played() {
        String two = "person 0 0, person 0 0\n";
        play("none", "text: = 0\nplayed 0 = -1, about 3 = 0, played 1 = -2, played -1 = -2");
        play("laws alone", "text: comes 1;wears 1; = 0\nplayed 0 = -1, about 3 = 0, about 2 = -1");
        play("the first one", two + "text: again 0;tide 1; = 0\nplayed 0 = 0, is 0 = 0");
        play("behind laws", two + "text: comes 1;wears 1;again 0;tide 1; = 0\nplayed 0 = 2, is 0 = 0");
        play("the last one", two + "text: tide 1;toss 0 to 1 cork 9;comes 1;fish 0 by 0; = 0\nplayed 0 = 3, is 0 = 1, is 3 = 1, is 2 = 1");
        play("a 24th", two + "text: " + "tide 1;".repeat(23) + "again 0; = 0\nplayed 0 = 23, is 0 = 23, about 3 = 23");
        play("24 of them", two + "text: " + "tide 1;".repeat(24) + " = 0\nplayed 0 = -1, is 0 = 24, about 3 = 24");
        play("no such person", "text: person 0 luck 0;toss 0 to 1 cork 1; = 0\nplayed 0 = 1, about 0 = 1");
        play("like ones", two + "text: toss 1 to 1 cork 1; = 0\nplayed 0 = 0, is 3 = 0");
        play("no such bottle", two + "text: toss 0 to 1 cork 1;fish 1 by 1; = 0\nplayed 0 = 1, is 3 = 1");
        play("by FROM", two + "text: toss 0 to 1 cork 1;fish 0 by 0; = 0\nplayed 0 = 1");
        play("by TO", two + "text: toss 0 to 1 cork 1;fish 0 by 1;again 0; = 0\nplayed 0 = -1, about 3 = 3, book -1 0 = 1, is 2 = 1");
        play("the 12th bottle", """
            person 0 0, person 0 0
            12x toss 0 1 99
            text: fish 11 by 1;fish 7 by 1;again 11; = 0
            played 0 = -1, of 1 3 = 128, is 2 = 3967
            """);
        play("as told", """
            text: person 9 luck 8;person 7 luck 6;current 2 from 9 to 4;tide 2;toss 0 to 1 cork 33;tide 1; = 0
            played 0 = -1
            of 0 0 = 9, of 0 1 = 8, of 1 0 = 7, of 1 1 = 6, told 2 9 = 4, ofBottle 0 0 = 0, ofBottle 0 1 = 1, ofBottle 0 2 = 4, ofBottle 0 3 = 32
            ofBottle 0 5 = 2, is 0 = 3, about 3 = 4, undo = 3, is 0 = 2
            """);
        play("by THE TEXT, not by its own laws", """
            person 0 0, person 5 0
            text: wears 7;toss 0 to 1 cork 50;tide 1; = 0
            text: wears 9; = 1
            played 0 = -1, ofBottle 0 3 = 49
            by 1, played 0 = -1, ofBottle 1 3 = 41
            """);
        play("it can be played again", two + "text: tide 2;toss 0 to 1 cork 9; = 0\nplayed 0 = -1, played 0 = -1, is 0 = 4, is 3 = 2, played 1 = -2, played -1 = -2, played 4 = -2");
    }

    /** "(of so many TIDES those that can pass do)". */
    private static void playedTides() {
        String end = "166x tide 60\ntide 30, is 0 = 9990\n";
        play("just to the end", end + "text: tide 9;person 0 luck 0; = 0\nplayed 0 = -1, is 0 = 9999, about 0 = 1");
        play("one too many", end + "text: tide 10;person 0 luck 0; = 0\nplayed 0 = 0, is 0 = 9999, about 0 = 0, about 3 = 30, undo = 29, is 0 = 9998");
        play("far too many", end + "text: wears 1;tide 60; = 0\nplayed 0 = 1, is 0 = 9999");
        play("none can", end + "tide 9\ntext: tide 1; = 0\nplayed 0 = 0, is 0 = 9999, about 3 = 30");
        play("sixty can", "text: tide 60; = 0\nplayed 0 = -1, is 0 = 60, about 3 = 30");
    }

    /** As by hand a seventh PERSON and a 13th BOTTLE can't be. */
    private static void playedFull() {
        play("six persons", "text: " + "person 1 luck 1;".repeat(6) + " = 0\nplayed 0 = -1, about 0 = 6, played 0 = 0, about 0 = 6");
        play("seven", "text: " + "person 1 luck 1;".repeat(7) + " = 0\nplayed 0 = 6, about 0 = 6");
        play("twelve bottles", "person 0 0, person 1 0\ntext: " + "toss 0 to 1 cork 9;".repeat(12) + " = 0\nplayed 0 = -1, is 3 = 12, played 0 = 0, is 3 = 12");
        play("thirteen", "person 0 0, person 1 0\ntext: " + "toss 0 to 1 cork 9;".repeat(13) + " = 0\nplayed 0 = 12, is 3 = 12, about 3 = 12");
    }
}
