/** Calls a BottledPost by the call's name; a boolean counts 1 or 0. */
final class Caller {
    private Caller() {
    }

    static long call(BottledPost x, String name, int[] a) {
        switch (name) {
            case "person": return x.person(a[0], a[1]);
            case "current": return bit(x.current(a[0], a[1], a[2]));
            case "feed": return x.feed(a[0], a[1], a[2], a[3], a[4]);
            case "end": return x.end(a[0]);
            case "text": return x.text();
            case "fault": return x.fault(a[0]);
            case "by": return bit(x.by(a[0]));
            case "toss": return x.toss(a[0], a[1], a[2]);
            case "fish": return bit(x.fish(a[0], a[1]));
            case "again": return bit(x.again(a[0]));
            case "tide": return x.tide(a[0]);
            case "played": return x.played(a[0]);
            case "years": return x.years(a[0], a[1]);
            case "undo": return x.undo();
            case "of": return x.of(a[0], a[1]);
            case "ofBottle": return x.ofBottle(a[0], a[1]);
            case "told": return x.told(a[0], a[1]);
            case "is": return x.is(a[0]);
            case "book": return x.book(a[0], a[1]);
            case "foretold": return x.foretold(a[0], a[1], a[2]);
            case "ends": return x.ends(a[0]);
            case "drift": return x.drift(a[0], a[1]);
            case "soonest": return x.soonest(a[0], a[1], a[2]);
            case "relay": return x.relay(a[0], a[1], a[2]);
            case "found": return x.found(a[0], a[1]);
            case "tossed": return x.tossed(a[0]);
            case "likely": return x.likely(a[0], a[1], a[2], a[3] != 0);
            case "odds": return bit(x.odds(a[0], a[1]));
            case "code": return x.code(a[0]);
            case "clear": return x.clear(a[0]);
            case "reads": return x.reads(a[0]);
            case "halves": return bit(x.halves(a[0], a[1]));
            case "sorters": return x.sorters(a[0]);
            case "sorter": return x.sorter(a[0], a[1]);
            case "writes": return bit(x.writes(a[0], a[1]));
            case "orders": return x.orders(a[0]);
            case "sure": return x.sure(a[0], a[1], a[2]);
            case "said": return x.said(a[0], a[1]);
            case "whose": return x.whose();
            case "luckiest": return x.luckiest();
            case "eldest": return x.eldest();
            case "crowd": return x.crowd();
            case "empty": return x.empty();
            case "ledger": return x.ledger(a[0]);
            case "image": return x.image();
            case "back": return x.back();
            case "about": return x.about(a[0]);
            default: throw new IllegalArgumentException(name);
        }
    }

    private static long bit(boolean b) {
        return b ? 1 : 0;
    }
}
