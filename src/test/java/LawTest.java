/** Promises 6 and 17: what a law says of a bottle. */
public final class LawTest {
    private static final Check CHECK = new Check("LawTest");

    public static void main(String[] args) {
        sums();
        limits();
        asks();
        names();
        CHECK.close();
    }

    /** Persons at 3, 8 and 6; one bottle from 0 to 1, tossed on tide 2, now tide 5. */
    private static BottledPost sea() {
        BottledPost post = Tapes.still();
        post.person(3, 1);
        post.person(8, 4);
        post.person(6, 0);
        post.tide(2);
        post.toss(0, 1, 42);
        post.tide(3);
        return post;
    }

    private static void comes(String sum, int due) {
        BottledPost post = sea();
        CHECK.due("reads " + sum, Tapes.read(post, "comes " + sum + ";"), 0);
        post.by(0);
        CHECK.due(sum, post.ofBottle(0, 6), due);
    }

    private static void wears(String sum, int due) {
        BottledPost post = sea();
        CHECK.due("reads " + sum, Tapes.read(post, "wears " + sum + ";"), 0);
        post.by(0);
        CHECK.due(sum, post.ofBottle(0, 7), due);
    }

    private static void sums() {
        wears("7", 7);
        wears("1+2*3", 7);
        wears("(1+2)*3", 9);
        wears("10-3-2", 5);
        wears("100/5/2", 10);
        wears("2*9/4*2", 8);
        wears("7/2", 3);
        wears("20+(-7)/2", 17);
        wears("20+7/-2", 17);
        wears("20+-7/-2", 23);
        wears("5/0+3", 3);
        wears("(0-5)/(2-2)+3", 3);
        wears("1--1", 2);
        wears("--5", 5);
        wears("-3+5", 2);
        wears("-3*-5", 15);
        wears("later 9 than 4", 5);
        wears("later 4 than 9", 0);
        wears("later 4 than 4", 0);
        wears("later 9 than 4*2", 10);
        wears("later 9 than later 4 than 1", 6);
        wears("later -1 than -4", 3);
        wears("places 0", 3);
        wears("places 1", 8);
        wears("places 3", 0);
        wears("places -1+7", 7);
        wears("places 1-1", 7);
        wears("places (1-1)", 3);
        wears("places places 0", 0);
        wears("places 9999", 0);
    }

    private static void limits() {
        comes("10", 10);
        comes("11", 10);
        comes("9999", 10);
        comes("-1", 0);
        comes("0", 0);
        wears("99", 99);
        wears("100", 99);
        wears("0-1", 0);
        wears("9999*9999-9999*100-99", 1);
        wears("9999*9999/9999", 99);
        wears("9999*9999/9999-98", 2);
        wears("9999*9999*9999*9999*9999/9999-98", 2);
        wears("9999*100+99+2-9999*100-90", 10);
        wears("9999*-9999+9999*100+99+5", 4);
        wears("-9999*100-99-7+9999*100+9999-9000-890", 9);
        wears("later (0-9) than 4", 0);
        wears("later (9999*9999) than ((0-9999)*9999)-9999*100-98", 2);
    }

    private static void ask(String either, boolean due) {
        wears("if " + either + " then 7 else 3 end", due ? 7 : 3);
    }

    private static void asks() {
        ask("1<2", true);
        ask("2<2", false);
        ask("2<=2", true);
        ask("3<=2", false);
        ask("3>2", true);
        ask("2>2", false);
        ask("2>=2", true);
        ask("1>=2", false);
        ask("2=2", true);
        ask("2=1", false);
        ask("2#1", true);
        ask("2#2", false);
        ask("not 1=1", false);
        ask("not not 1=1", true);
        ask("1=1 or 1=1 and 1=2", true);
        ask("1=2 and 1=2 or 1=1", true);
        ask("1=2 or 1=2 and 1=1", false);
        ask("1=1 and 1=2 or 1=2", false);
        ask("not 1=2 and 1=2", false);
        ask("not 1=1 or 1=1", true);
        ask("1+1=2", true);
        ask("1=2 or 1=2 or 1=1", true);
        ask("1=1 and 1=1 and 1=2", false);
        ask("if 1=1 then 5 else 6 end=5", true);
        wears("if 1=2 then 5/0 else 8 end*2", 16);
        wears("1+if 1=1 then if 1=2 then 10 else 20 end else 30 end+2", 23);
        wears("if 1=2 then if 1=2 then 10 else 20 end else if 1=1 then 40 else 50 end end", 40);
    }

    private static void names() {
        wears("tide", 5);
        wears("since", 3);
        wears("cork", 39);
        wears("luck", 4);
        wears("at", 3);
        wears("from+50", 50);
        wears("to", 1);
        wears("places to", 8);
        comes("near", 1);
        comes("tide", 5);
        comes("luck+to", 5);
        BottledPost post = sea();
        Tapes.read(post, "comes near;wears luck;");
        post.by(0);
        post.person(3, 9);
        post.toss(0, 3, 9);
        post.toss(3, 1, 9);
        post.toss(1, 0, 9);
        CHECK.due("three near", post.ofBottle(0, 6), 3);
        CHECK.due("one elsewhere", post.ofBottle(3, 6), 1);
        CHECK.due("luck of TO", post.ofBottle(1, 7), 9);
        post.fish(0, 3);
        CHECK.due("it not, as it is kept", post.ofBottle(0, 6), 2);
        CHECK.due("nor for the others", post.ofBottle(1, 6), 2);
        post.again(0);
        CHECK.due("there again", post.ofBottle(1, 6), 3);
    }
}
