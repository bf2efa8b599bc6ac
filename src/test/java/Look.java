/** All that a post answers, so that one to which a call was made can be held against its twin to which it was not. */
final class Look {
    private final Play play;
    private final StringBuilder seen = new StringBuilder();

    private Look(Play play) {
        this.play = play;
    }

    /** What it answers now, and what comes to light if its tape is read, its steps are taken back and it goes back. */
    static String at(Play play) {
        Look look = new Look(play);
        look.atState();
        look.atSayings();
        look.ask("text");
        look.ask("fault 0");
        look.ask("fault 1");
        for (long left = play.call("about 3"); left > 0; left--) {
            look.ask("undo");
            for (int what = 0; what < 4; what++) look.ask("is " + what);
        }
        look.ask("back");
        look.atState();
        if (play.calls() > 512) throw new IllegalStateException("more calls than an object is used for: " + play.calls());
        return look.seen.toString();
    }

    private long ask(String call) {
        long answer = play.call(call);
        seen.append(call).append(" = ").append(answer).append('\n');
        return answer;
    }

    private void atState() {
        for (int what = 0; what < 8; what++) ask("about " + what);
        for (int what = 0; what < 3; what++) ask("is " + what);
        long bottles = ask("is 3");
        for (int bottle = 0; bottle < bottles; bottle++) for (int what = 0; what < 8; what++) ask("ofBottle " + bottle + " " + what);
        long persons = play.call("about 0");
        for (int person = 0; person < persons; person++) for (int what = 0; what < 4; what++) ask("of " + person + " " + what);
        for (int place = 0; place < 10; place++) for (int tide = 0; tide < 3; tide++) ask("told " + tide + " " + place);
        long lines = ask("book -1 0");
        for (int line = 0; line < lines; line++) for (int what = 0; what < 4; what++) ask("book " + line + " " + what);
    }

    private void atSayings() {
        for (int what = 0; what < 2; what++) {
            ask("fault " + what);
            ask("tossed " + what);
            ask("clear " + what);
        }
        for (int word : new int[] {1, 11, 12, 121, 1112}) ask("reads " + word);
        for (int n = 0; n <= 8; n++) ask("orders " + n);
        ask("sorters 8");
        for (int letter = 0; letter < 8; letter++) ask("sorter 8 " + letter);
        for (int a = 0; a < 8; a++) for (int b = 0; b < a; b++) ask("sure 8 " + a + " " + b);
        for (int place = 0; place < 10; place += 3) ask("likely " + place + " 0 8 0");
        for (String call : new String[] {"whose", "luckiest", "eldest", "crowd", "empty", "ledger 0", "ledger 1", "ledger 2"}) ask(call);
    }
}
