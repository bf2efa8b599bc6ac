/** Counts the answers that are not due; each test ends with close(). */
final class Check {
    private final String name;
    private int looked = 0;
    private int wrong = 0;

    Check(String name) {
        this.name = name;
    }

    void due(String call, long got, long want) {
        looked++;
        if (got == want) return;
        wrong++;
        if (wrong <= 50) System.out.println(name + ": " + call + " answered " + got + ", due is " + want);
    }

    void due(String call, String got, String want) {
        looked++;
        if (got.equals(want)) return;
        wrong++;
        if (wrong <= 50) System.out.println(name + ": " + call + " left\n" + got + "due is\n" + want);
    }

    void due(String call, boolean got, boolean want) {
        due(call, got ? 1 : 0, want ? 1 : 0);
    }

    void close() {
        System.out.println(name + ": " + looked + " answers, " + wrong + " not as due");
        if (wrong != 0) System.exit(1);
    }
}
