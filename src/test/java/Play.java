/**
 * Plays runs of calls that are written down, on a post of their own. A line has calls, parted by commas: a number and
 * an x in front of one say how often it is called, what stands behind its = is the answer that is due each time (a
 * boolean counts 1 or 0). A line that begins with "text:" has a whole text, which is put on the tape and read; "still"
 * lets all currents stay where they are; what stands behind a # (but of a text) is said for who reads it.
 */
final class Play {
    /** What later calls answer is free. */
    private static final int MOST_CALLS = 512;

    private final Check check;
    private final String what;
    final BottledPost post = new BottledPost();
    private int calls = 0;

    private Play(Check check, String what) {
        this.check = check;
        this.what = what;
    }

    static Play of(Check check, String what, String lines) {
        return new Play(check, what).on(lines);
    }

    Play on(String lines) {
        for (String line : lines.split("\n")) {
            boolean isText = line.trim().startsWith("text:");
            String said = isText ? line.trim().substring(5) : line.replaceAll("#.*", "").trim();
            if (isText) readText(said.trim());
            else if (said.equals("still")) standStill();
            else if (!said.isEmpty()) for (String one : said.split(",")) callAsSaid(one.trim());
        }
        return this;
    }

    private void readText(String said) {
        int behind = said.lastIndexOf("= ");
        String text = said.substring(0, behind).trim();
        calls += 3 + (text.length() + 19) / 20;
        answered("text " + text, Tapes.read(post, text), said.substring(behind + 2));
    }

    private void standStill() {
        for (int tide = 0; tide < 3; tide++) for (int place = 0; place < 10; place++) call("current " + tide + " " + place + " " + place);
    }

    private void callAsSaid(String one) {
        int times = 1;
        String call = one;
        if (one.matches("\\d+x .*")) {
            times = Integer.parseInt(one.substring(0, one.indexOf('x')));
            call = one.substring(one.indexOf(' ') + 1);
        }
        String[] parts = call.split(" = ");
        for (int i = 0; i < times; i++) {
            long answer = call(parts[0]);
            if (parts.length > 1) answered(parts[0], answer, parts[1]);
        }
    }

    /** Calls it by its words, whatever it answers. */
    long call(String call) {
        String[] words = call.trim().split(" +");
        int[] numbers = new int[words.length - 1];
        for (int i = 0; i < numbers.length; i++) numbers[i] = Integer.parseInt(words[i + 1]);
        calls++;
        return Caller.call(post, words[0], numbers);
    }

    private void answered(String call, long answer, String due) {
        if (calls > MOST_CALLS) throw new IllegalStateException(what + ": more calls than an object is used for");
        check.due(what + ": call " + calls + ", " + call, answer, Long.parseLong(due.trim()));
    }

    int calls() {
        return calls;
    }
}
