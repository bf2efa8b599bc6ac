/** Promises 6 and 7: which text has which fault, and where. */
public final class FaultTest {
    private static final Check CHECK = new Check("FaultTest");

    public static void main(String[] args) {
        canStand();
        cantStand();
        numbers();
        tooDeep();
        others();
        CHECK.close();
    }

    private static void fine(String text) {
        BottledPost post = new BottledPost();
        CHECK.due(text, Tapes.read(post, text), 0);
        CHECK.due(text + " fault", post.fault(0), 0);
        CHECK.due(text + " place", post.fault(1), -1);
    }

    private static void fault(String text, int what, int place) {
        BottledPost post = new BottledPost();
        CHECK.due(text, Tapes.read(post, text), -1);
        CHECK.due(text + " fault", post.fault(0), what);
        CHECK.due(text + " place", post.fault(1), place);
        CHECK.due(text + " isn't there", post.about(1), 0);
    }

    private static void canStand() {
        fine("");
        fine(" \n\n ");
        fine("comes 1;wears 2;person 0 luck 9;current 2 from 0 to 9;toss 5 to 0 cork 99;fish 11 by 5;again 11;tide 60;");
        fine("person 9luck 0;toss 0to 5cork 1;fish 0 by 0;again 0;tide 1;");
        fine("comes1;wears(2);");
        fine("\ncomes\n1\n;\n");
        fine("comes tide+since-cork*luck/at+from-to+near;");
        fine("wears tide+since-cork*luck/at+from-to;");
        fine("comes later near than places to;");
        fine("comes if 1<2 and 2<=3 or 3>2 and 3>=2 or 1=1 or 1#2 and not not 1<2 then 1 else 2 end+1;");
        fine("comes 00000000000000009999;");
        fine("tide 0060;");
        fine("comes 1--1*-1/(-1);");
        fine("comes if(1)<(2)then 1 else 2 end;");
        fine("toss 0 to 0 cork 1;");
        fine("comes if if 1<2 then 1 else 2 end<3 then 4 else 5 end;");
    }

    private static void cantStand() {
        fault(";", 1, 0);
        fault("x", 1, 0);
        fault("Comes 1;", 1, 0);
        fault("comess 1;", 1, 0);
        fault("come 1;", 1, 0);
        fault("comes;", 1, 5);
        fault("comes 1", 1, 7);
        fault("comes 1 \n", 1, 9);
        fault("comes", 1, 5);
        fault("comes 1 1;", 1, 8);
        fault("comes (1;", 1, 8);
        fault("comes 1);", 1, 7);
        fault("comes 1+;", 1, 8);
        fault("comes +1;", 1, 6);
        fault("comes not 1;", 1, 6);
        fault("comes foo;", 1, 6);
        fault("comes luckk;", 1, 6);
        fault("comes LUCK;", 1, 6);
        fault("comesz 1;", 1, 0);
        fault("comesA 1;", 1, 0);
        fault("comesZ 1;", 1, 0);
        fault("zcomes 1;", 1, 0);
        fault("comes@1;", 1, 5);
        fault("comes[1;", 1, 5);
        fault("comes`1;", 1, 5);
        fault("comes{1;", 1, 5);
        fault("comes:1;", 1, 5);
        fault("comes 1:;", 1, 7);
        fault("comes 1.5;", 1, 7);
        fault("comes 1,5;", 1, 7);
        fault("comes\r1;", 1, 5);
        fault("comes\u00a01;", 1, 5);
        fault("comes 1\t;", 1, 7);
        fault("comes 1!;", 1, 7);
        fault("comes \0;", 1, 6);
        fault("comes \u00e9;", 1, 6);
        fault("comes 1<2;", 1, 7);
        fault("comes if 1 then 2 else 3 end;", 1, 11);
        fault("comes if 1<2<3 then 2 else 3 end;", 1, 12);
        fault("comes if 1< =2 then 2 else 3 end;", 1, 12);
        fault("comes if 1=<2 then 2 else 3 end;", 1, 11);
        fault("comes if 1==2 then 2 else 3 end;", 1, 11);
        fault("comes if 1#=2 then 2 else 3 end;", 1, 11);
        fault("comes if 1<2 then 2 end;", 1, 20);
        fault("comes if 1<2 then 2 else 3;", 1, 26);
        fault("comes if 1<2 else 3 end;", 1, 13);
        fault("comes if (1<2) then 2 else 3 end;", 1, 11);
        fault("comes if 1<2 and then 2 else 3 end;", 1, 17);
        fault("comes if 1<2 or then 2 else 3 end;", 1, 16);
        fault("comes later 1;", 1, 13);
        fault("comes later 1+2 than 3;", 1, 13);
        fault("comes than 1;", 1, 6);
        fault("comes places;", 1, 12);
        fault("comes place 1;", 1, 6);
        fault("person 1;", 1, 8);
        fault("person luck 1;", 1, 7);
        fault("person 1 luck;", 1, 13);
        fault("person 1 cork 1;", 1, 9);
        fault("person (1) luck 1;", 1, 7);
        fault("person -1 luck 1;", 1, 7);
        fault("current 0 to 0 from 0;", 1, 10);
        fault("current 0 from 0 from 0;", 1, 17);
        fault("toss 0 to 1;", 1, 11);
        fault("toss 0 1 cork 1;", 1, 7);
        fault("fish 0 to 1;", 1, 7);
        fault("again;", 1, 5);
        fault("tide;", 1, 4);
        fault("tide tide;", 1, 5);
        fault("tide 1+1;", 1, 6);
        fault("tide 1;;", 1, 7);
        fault("near;", 1, 0);
        fault("5;", 1, 0);
        fault("tide 1", 1, 6);
    }

    private static void numbers() {
        fault("comes 10000;", 2, 6);
        fault("comes 99999999999999999999999999;", 2, 6);
        fault("comes 1+4294967297;", 2, 8);
        fault("person 10 luck 0;", 2, 7);
        fault("person 0 luck 10;", 2, 14);
        fault("current 3 from 0 to 0;", 2, 8);
        fault("current 0 from 10 to 0;", 2, 15);
        fault("current 0 from 0 to 10;", 2, 20);
        fault("toss 6 to 0 cork 1;", 2, 5);
        fault("toss 0 to 6 cork 1;", 2, 10);
        fault("toss 0 to 1 cork 0;", 2, 17);
        fault("toss 0 to 1 cork 100;", 2, 17);
        fault("fish 12 by 0;", 2, 5);
        fault("fish 0 by 6;", 2, 10);
        fault("again 12;", 2, 6);
        fault("again 4294967296;", 2, 6);
        fault("tide 0;", 2, 5);
        fault("tide 61;", 2, 5);
        // A number that can't stand there is the lesser fault, and the first one counts.
        fault("person 1 10000 1;", 1, 9);
        fault("comes 1 10000;", 1, 8);
        fault("tide 61 x", 2, 5);
        fault("x tide 61;", 1, 0);
    }

    private static void tooDeep() {
        String[] openers = {"(", "-", "places ", "later ", "if "};
        for (String opener : openers) {
            fault("wears " + opener.repeat(9) + "1", 3, 6 + 8 * opener.length());
            fault("wears " + opener.repeat(8) + "(1", 3, 6 + 8 * opener.length());
        }
        fine("wears ((((((((1))))))));");
        fine("wears --------1;");
        fine("wears places places places places places places places places 1;");
        fine("wears later later later later later later later later 1 than 1 than 1 than 1 than 1 than 1 than 1 than 1 than 1;");
        fine("wears if not not not not not not not 1<2 then 1 else 2 end;");
        fault("wears if not not not not not not not not 1<2 then 1 else 2 end;", 3, 37);
        fault("wears if not not not not not not not (1)<2 then 1 else 2 end;", 3, 37);
        fine("wears if not not not not not not not 1<2 and not not not not not not not 1<2 then 1 else 2 end;");
        // Each is open till its end, and no longer.
        fine("wears (((((((1)))))))+((((((((1))))))));");
        fine("wears -------1*--------1;");
        fine("wears later 1 than -------1+--------1;");
        fault("wears later 1 than --------1;", 3, 26);
        fault("wears later --------1 than 1;", 3, 19);
        fine("wears if 1<2 then -------1 else (((((((2))))))) end+--------1;");
        fault("wears if 1<2 then 1 else --------2 end;", 3, 32);
        fault("wears if 1<2 then --------1 else 2 end;", 3, 25);
        fault("wears if --------1<2 then 1 else 2 end;", 3, 16);
        fine("wears 1-1-1-1-1-1-1-1-1-1-1-1;");
        fault("comes ((((((((1)))))))-(1;", 1, 25);
        fault("comes ((((((((near+(1", 3, 19);
    }

    private static void others() {
        fault("comes 1;comes 2;", 4, 8);
        fault("wears 1; tide 1; wears;", 4, 17);
        fault("wears near;", 5, 6);
        fault("wears 1+later 2 than near;", 5, 21);
        fine("wears 1;comes near;");
        fault("comes near;wears near;", 5, 17);
        fault("tide near;", 1, 5);
        fine("again 0;".repeat(24));
        fault("again 0;".repeat(25), 6, 192);
        fault("again 0;".repeat(24) + "comes", 6, 192);
        fault("again 0;".repeat(24) + " x", 1, 193);
        fault("again 0;".repeat(24) + "near", 1, 192);
        fine("comes 1;" + "again 0;".repeat(23));
        fault("comes 1;" + "again 0;".repeat(23) + "comes 1;", 4, 192);
        fault("comes 1;" + "again 0;".repeat(23) + "wears 1;", 6, 192);
        fine("comes 1;" + "again 0;".repeat(23) + "  ");
    }
}
