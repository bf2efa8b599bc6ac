import java.util.Arrays;

/** A bottled post office; what each call does is said in ../shared/DOC.md, whose words the names here follow. */
public final class BottledPost {
    public static final int NONE = -1;

    /** The answer to others where NONE itself says something. */
    private static final int OTHER = -2;

    private static final int PLACES = 10;
    private static final int PHASES = 3;
    private static final int MOST_PERSONS = 6;
    private static final int MOST_LUCK = 9;
    private static final int MOST_BOTTLES = 12;
    private static final int MOST_CORK = 99;
    private static final int LAST_TIDE = 9999;
    private static final int FIRST_X = 227;
    private static final int MOST_TIDES = 60;
    private static final int MOST_STEPS = 30;
    private static final int MOST_LINES = 30;
    private static final int MOST_BYTES = 300;
    private static final int MOST_TEXTS = 4;
    private static final int MOST_CLAUSES = 24;
    private static final int MOST_FOUND = 6;
    private static final int MOST_CODES = 8;
    private static final int MOST_SAID = 8;
    private static final int LETTERS = 8;
    private static final int MOST_NUMBER = 9999;
    private static final int ODDS = 10;
    private static final int MOST_WAIT = 9;

    /** How a BOTTLE is; KEPT and more: kept by PERSON 0 and more. */
    private static final int AFLOAT = 0;
    private static final int COME = 1;
    private static final int SUNK = 2;
    private static final int KEPT = 3;

    /** What is told of a BOTTLE, by the numbers that ofBottle has for it. */
    private static final int FROM = 0;
    private static final int TO = 1;
    private static final int AT = 2;
    private static final int CORK = 3;
    private static final int HOW = 4;
    private static final int SINCE = 5;
    private static final int BOTTLE_PARTS = 6;

    /** What BOOK says that a BOTTLE did. */
    private static final int BOOK_CAME = 0;
    private static final int BOOK_SANK = 1;
    private static final int BOOK_FISHED = 2;

    private final World now = new World();
    private final World kept = new World();
    private final Tape tape = new Tape();
    private final Grammar grammar = new Grammar();
    private final Laws laws = new Laws();
    private final Routes routes = new Routes();
    private final Riddles riddles = new Riddles();

    /** A sea to foretell in, made once: what is asked changes nothing of the true one. */
    private final Sea glass = new Sea();

    private int latestFault = NONE;
    private int latestFaultPlace = NONE;

    public BottledPost() {
    }

    // ---- told by hand ----

    public int person(int place, int luck) {
        return now.shore.addPerson(place, luck);
    }

    public boolean current(int tide, int place, int to) {
        return now.shore.tellCurrent(tide, place, to);
    }

    public int feed(int a, int b, int c, int d, int e) {
        if (!tape.hasRoom(20)) return NONE;
        tape.addFour(a);
        tape.addFour(b);
        tape.addFour(c);
        tape.addFour(d);
        tape.addFour(e);
        return tape.length;
    }

    public int end(int n) {
        if (!within(n, 0, tape.length)) return NONE;
        tape.length = n;
        return n;
    }

    public int text() {
        if (now.texts >= MOST_TEXTS) return NONE;
        Text read = grammar.readAll(tape);
        tape.length = 0;
        latestFault = grammar.fault;
        latestFaultPlace = grammar.fault == 0 ? NONE : grammar.faultPlace;
        return read == null ? NONE : now.addText(read);
    }

    public int fault(int what) {
        if (what == 0) return latestFault;
        if (what == 1) return latestFaultPlace;
        return NONE;
    }

    public boolean by(int text) {
        if (!within(text, NONE, now.texts - 1)) return false;
        now.ruling = text;
        return true;
    }

    // ---- steps ----

    public int toss(int from, int to, int cork) {
        return tossBottle(from, to, cork, true);
    }

    public boolean fish(int bottle, int person) {
        return fishBottle(bottle, person, true);
    }

    public boolean again(int bottle) {
        return tossAgain(bottle, true);
    }

    public int tide(int n) {
        if (!within(n, 1, MOST_TIDES) || now.sea.tide + n > LAST_TIDE) return NONE;
        return passTides(n);
    }

    public int played(int text) {
        Text script = now.textOf(text);
        if (script == null) return OTHER;
        int clauses = script.countClauses();
        for (int i = 0; i < clauses; i++) {
            if (!playClause(script, i)) return i;
        }
        return NONE;
    }

    public int years(int seed, int n) {
        if (!within(seed, 0, 9999) || !within(n, 1, 40)) return NONE;
        now.steps.keep(now.sea);
        now.sea.x = seed * 2 + FIRST_X;
        for (int i = 0; i < n; i++) {
            liveYear(now.sea.draw());
        }
        return now.sea.tide;
    }

    public int undo() {
        return now.steps.takeBack(now.sea);
    }

    private int tossBottle(int from, int to, int cork, boolean step) {
        boolean can = now.shore.hasPerson(from) && now.shore.hasPerson(to) && from != to
            && within(cork, 1, MOST_CORK) && now.sea.bottles < MOST_BOTTLES;
        if (!can) return NONE;
        if (step) now.steps.keep(now.sea);
        return now.sea.addBottle(from, to, now.shore.placeOf(from), cork);
    }

    private boolean fishBottle(int bottle, int person, boolean step) {
        Sea sea = now.sea;
        boolean can = sea.isAfloat(bottle) && now.shore.hasPerson(person)
            && sea.get(bottle, FROM) != person && sea.get(bottle, AT) == now.shore.placeOf(person);
        if (!can) return false;
        if (step) now.steps.keep(sea);
        sea.set(bottle, HOW, KEPT + person);
        sea.writeDown(bottle, BOOK_FISHED);
        return true;
    }

    private boolean tossAgain(int bottle, boolean step) {
        Sea sea = now.sea;
        if (!sea.hasBottle(bottle) || sea.get(bottle, HOW) < KEPT) return false;
        if (step) now.steps.keep(sea);
        sea.set(bottle, AT, now.shore.placeOf(sea.get(bottle, HOW) - KEPT));
        sea.set(bottle, HOW, AFLOAT);
        return true;
    }

    /** So many TIDES as can pass, each a STEP: how many BOTTLES come. */
    private int passTides(int n) {
        int came = 0;
        for (int i = 0; i < n && now.sea.tide < LAST_TIDE; i++) {
            now.steps.keep(now.sea);
            came += laws.passTide(now.sea, now.shore, now.rules());
        }
        return came;
    }

    /** Does one CLAUSE as by hand: whether it can be. */
    private boolean playClause(Text script, int i) {
        int a = script.part(i, 1);
        int b = script.part(i, 2);
        int c = script.part(i, 3);
        switch (script.part(i, 0)) {
            case Tape.PERSON:
                return now.shore.addPerson(a, b) != NONE;
            case Tape.CURRENT:
                return now.shore.tellCurrent(a, b, c);
            case Tape.TOSS:
                return tossBottle(a, b, c, true) != NONE;
            case Tape.FISH:
                return fishBottle(a, b, true);
            case Tape.AGAIN:
                return tossAgain(a, true);
            case Tape.TIDE:
                boolean canAll = now.sea.tide + a <= LAST_TIDE;
                passTides(a);
                return canAll;
            default:
                return true;
        }
    }

    /** One draw of YEARS. The whole of YEARS is one STEP, so nothing here is a STEP of its own. */
    private void liveYear(int x) {
        int kind = x % 6;
        int persons = now.shore.persons;
        int bottles = now.sea.bottles;
        if (kind >= 4) {
            if (now.sea.tide < LAST_TIDE) laws.passTide(now.sea, now.shore, now.rules());
        } else if (kind == 3) {
            if (bottles > 0) tossAgain(x % bottles, false);
        } else if (kind == 2) {
            if (bottles > 0 && persons > 0) fishBottle(x % bottles, x / 6 % persons, false);
        } else if (persons > 0) {
            tossBottle(x % persons, x / 6 % persons, 1 + x % 30, false);
        }
    }

    // ---- how it is ----

    public int of(int person, int what) {
        if (!now.shore.hasPerson(person)) return NONE;
        switch (what) {
            case 0:
                return now.shore.placeOf(person);
            case 1:
                return now.shore.luckOf(person);
            case 2:
                return now.sea.countComeTo(person);
            case 3:
                return now.sea.bottlesThatAre(KEPT + person);
            default:
                return NONE;
        }
    }

    public int ofBottle(int bottle, int what) {
        if (!now.sea.hasBottle(bottle)) return OTHER;
        if (within(what, 0, BOTTLE_PARTS - 1)) return now.sea.get(bottle, what);
        if (what == 6) return laws.comesOf(now.rules(), now.sea, now.shore, bottle);
        if (what == 7) return laws.wearsOf(now.rules(), now.sea, now.shore, bottle);
        return OTHER;
    }

    public int told(int tide, int place) {
        if (!within(tide, 0, PHASES - 1) || !isPlace(place)) return NONE;
        return now.shore.leadsTo(tide, place);
    }

    public int is(int what) {
        switch (what) {
            case 0:
                return now.sea.tide;
            case 1:
                return now.sea.x;
            case 2:
                return now.sea.bottlesThatAre(AFLOAT);
            case 3:
                return now.sea.bottles;
            default:
                return OTHER;
        }
    }

    public int book(int i, int what) {
        if (i == NONE) return now.sea.book.lines;
        if (!within(i, 0, now.sea.book.lines - 1) || !within(what, 0, Book.PARTS - 1)) return OTHER;
        return now.sea.book.part(i, what);
    }

    public int luckiest() {
        int best = NONE;
        int most = 0;
        for (int person = 0; person < now.shore.persons; person++) {
            int came = now.sea.countComeTo(person);
            if (came > most) {
                most = came;
                best = person;
            }
        }
        return best;
    }

    public int eldest() {
        int best = NONE;
        for (int bottle = 0; bottle < now.sea.bottles; bottle++) {
            if (!now.sea.isAfloat(bottle)) continue;
            if (best == NONE || now.sea.get(bottle, SINCE) < now.sea.get(best, SINCE)) best = bottle;
        }
        return best;
    }

    public int crowd() {
        int best = NONE;
        int most = 0;
        for (int place = 0; place < PLACES; place++) {
            int afloat = now.sea.countAfloatAt(place);
            if (afloat > most) {
                most = afloat;
                best = place;
            }
        }
        return best;
    }

    public int empty() {
        int bits = 0;
        for (int place = 0; place < PLACES; place++) {
            if (!now.shore.isInhabited(place) && now.sea.countAfloatAt(place) == 0) bits |= 1 << place;
        }
        return bits;
    }

    public int ledger(int what) {
        if (!within(what, BOOK_CAME, BOOK_FISHED)) return OTHER;
        return now.sea.book.countOf(what);
    }

    public int about(int what) {
        switch (what) {
            case 0:
                return now.shore.persons;
            case 1:
                return now.texts;
            case 2:
                return now.ruling;
            case 3:
                return now.steps.count;
            case 4:
                return now.sayings.founds;
            case 5:
                return now.sayings.codes;
            case 6:
                return now.sayings.saids;
            case 7:
                return tape.length;
            default:
                return OTHER;
        }
    }

    // ---- foretold ----

    public int foretold(int n, int bottle, int what) {
        if (!within(n, 1, MOST_TIDES) || !now.sea.hasBottle(bottle) || !within(what, 0, 2)) return NONE;
        glass.copyFrom(now.sea);
        for (int i = 0; i < n && glass.tide < LAST_TIDE; i++) {
            laws.passTide(glass, now.shore, now.rules());
        }
        // AT, CORK and how it is stand one behind the other in both numberings.
        return glass.get(bottle, AT + what);
    }

    public int ends(int bottle) {
        if (!now.sea.isAfloat(bottle)) return NONE;
        glass.copyFrom(now.sea);
        for (int i = 1; i <= MOST_TIDES && glass.tide < LAST_TIDE; i++) {
            laws.passTide(glass, now.shore, now.rules());
            if (!glass.isAfloat(bottle)) return i;
        }
        return NONE;
    }

    public int drift(int place, int n) {
        if (!isPlace(place) || !within(n, 0, MOST_TIDES)) return NONE;
        return now.shore.driftsTo(place, now.sea.tide, n);
    }

    public int soonest(int from, int to, int what) {
        if (!now.shore.hasPerson(from) || !now.shore.hasPerson(to) || !within(what, 0, 1)) return NONE;
        int total = routes.meet(now.shore, from, to, now.sea.tide, MOST_TIDES);
        return what == 0 || total == NONE ? total : routes.waited;
    }

    public int relay(int from, int to, int i) {
        if (!now.shore.hasPerson(from) || !now.shore.hasPerson(to) || from == to) return OTHER;
        int total = routes.relayTime(now.shore, from, to, now.sea.tide);
        if (total == NONE) return OTHER;
        if (i == NONE) return total;
        return within(i, 0, routes.bestCount - 1) ? routes.bestBetween(i) : OTHER;
    }

    public int found(int place, int n) {
        if (place == NONE) return now.sayings.forgetFound();
        if (!isPlace(place) || !within(n, 1, MOST_TIDES)) return OTHER;
        return now.sayings.addFound(place, n);
    }

    public int tossed(int what) {
        if (!within(what, 0, 1)) return NONE;
        int bits = 0;
        int count = 0;
        for (int place = 0; place < PLACES; place++) {
            for (int phase = 0; phase < PHASES; phase++) {
                if (!now.sayings.allFoundFrom(now.shore, place, phase)) continue;
                bits |= 1 << place;
                count++;
            }
        }
        return what == 0 ? bits : count;
    }

    public long likely(int place, int to, int n, boolean low) {
        if (!isPlace(place) || !now.shore.hasPerson(to) || !within(n, 1, 8)) return NONE;
        long upper = 0;
        long afloat = 1;
        long lower = 1;
        int at = place;
        int come = now.sayings.oddsCome;
        int stay = ODDS - now.sayings.oddsSink;
        for (int i = 0; i < n; i++) {
            at = now.shore.leadsTo(now.sea.tide + i, at);
            boolean there = at == now.shore.placeOf(to);
            upper = upper * ODDS + (there ? afloat * come : 0);
            afloat *= there ? stay - come : stay;
            lower *= ODDS;
        }
        long shared = sharedDivisor(upper, lower);
        if (shared <= 0) return NONE;
        return low ? lower / shared : upper / shared;
    }

    public boolean odds(int come, int sink) {
        if (!within(come, 0, ODDS) || !within(sink, 0, ODDS - come)) return false;
        now.sayings.oddsCome = come;
        now.sayings.oddsSink = sink;
        return true;
    }

    // ---- codes, sorters, orders, whose law ----

    public int code(int word) {
        if (word == NONE) return now.sayings.forgetCodes();
        return riddles.isWord(word) ? now.sayings.addCode(word) : OTHER;
    }

    public int clear(int what) {
        if (!within(what, 0, 1)) return NONE;
        int shortest = riddles.shortestUnclear(now.sayings);
        if (what == 1) return shortest;
        return shortest == NONE ? 1 : 0;
    }

    public long reads(int word) {
        if (!within(word, 1, 999999999)) return NONE;
        return riddles.countReadings(now.sayings, word);
    }

    public boolean halves(int a, int b) {
        return now.sayings.addHalves(a, b);
    }

    public int sorters(int n) {
        if (!within(n, 0, LETTERS)) return NONE;
        return riddles.fewestSorters(now.sayings, n);
    }

    public int sorter(int n, int letter) {
        if (!within(n, 0, LETTERS) || !within(letter, 0, n - 1)) return NONE;
        riddles.fewestSorters(now.sayings, n);
        return riddles.sorterOf(letter);
    }

    public boolean writes(int a, int b) {
        return now.sayings.addWrites(a, b);
    }

    public long orders(int n) {
        if (!within(n, 0, LETTERS)) return NONE;
        return riddles.countOrders(now.sayings, n, NONE, NONE);
    }

    public int sure(int n, int a, int b) {
        boolean asks = within(n, 0, LETTERS) && within(a, 0, n - 1) && within(b, 0, n - 1) && a != b;
        if (!asks) return OTHER;
        long all = riddles.countOrders(now.sayings, n, NONE, NONE);
        if (all == 0) return OTHER;
        long ahead = riddles.countOrders(now.sayings, n, a, b);
        if (ahead == all) return 1;
        return ahead == 0 ? -1 : 0;
    }

    public int said(int bottle, int comes) {
        if (bottle == NONE) return now.sayings.forgetSaid();
        if (!now.sea.hasBottle(bottle) || !within(comes, 0, ODDS)) return OTHER;
        return now.sayings.addSaid(bottle, comes);
    }

    public int whose() {
        int bits = 0;
        for (int text = 0; text < now.texts; text++) {
            if (allSaidBy(now.textOf(text))) bits |= 1 << text;
        }
        return bits;
    }

    private boolean allSaidBy(Text text) {
        for (int i = 0; i < now.sayings.saids; i++) {
            int bottle = now.sayings.saidBottle(i);
            if (!now.sea.hasBottle(bottle)) continue;
            if (laws.comesOf(text, now.sea, now.shore, bottle) != now.sayings.saidComes(i)) return false;
        }
        return true;
    }

    // ---- the image ----

    public int image() {
        kept.copyFrom(now);
        return now.sea.tide;
    }

    public int back() {
        now.copyFrom(kept);
        return now.sea.tide;
    }

    // ---- shared by all ----

    private static boolean within(int value, int low, int high) {
        return value >= low && value <= high;
    }

    private static boolean isPlace(int place) {
        return within(place, 0, PLACES - 1);
    }

    /** A row's number; 0 outside it, so that no index is used that was not looked at. */
    private static int cell(int[] row, int i) {
        return i >= 0 && i < row.length ? row[i] : 0;
    }

    private static void setCell(int[] row, int i, int value) {
        if (i >= 0 && i < row.length) row[i] = value;
    }

    private static void copyRow(int[] from, int[] to) {
        System.arraycopy(from, 0, to, 0, Math.min(from.length, to.length));
    }

    /** The greatest number that divides both. Of numbers up to 100000000 it takes some forty rounds. */
    private static long sharedDivisor(long a, long b) {
        long big = a;
        long small = b;
        for (int i = 0; i < 100 && small != 0; i++) {
            long rest = big % small;
            big = small;
            small = rest;
        }
        return big;
    }

    /** PERSONS and CURRENTS: what is told of the shores and no STEP takes back. */
    private static final class Shore {
        private final int[] places = new int[MOST_PERSONS];
        private final int[] lucks = new int[MOST_PERSONS];
        private final int[] leads = new int[PHASES * PLACES];
        int persons = 0;

        Shore() {
            for (int place = 0; place < PLACES; place++) {
                setCell(leads, place, (place + 1) % PLACES);
                setCell(leads, PLACES + place, (place + 3) % PLACES);
                setCell(leads, 2 * PLACES + place, place);
            }
        }

        void copyFrom(Shore other) {
            copyRow(other.places, places);
            copyRow(other.lucks, lucks);
            copyRow(other.leads, leads);
            persons = other.persons;
        }

        int addPerson(int place, int luck) {
            if (!isPlace(place) || !within(luck, 0, MOST_LUCK) || persons >= MOST_PERSONS) return NONE;
            setCell(places, persons, place);
            setCell(lucks, persons, luck);
            persons++;
            return persons - 1;
        }

        boolean tellCurrent(int phase, int place, int to) {
            if (!within(phase, 0, PHASES - 1) || !isPlace(place) || !isPlace(to)) return false;
            setCell(leads, phase * PLACES + place, to);
            return true;
        }

        boolean hasPerson(int person) {
            return person >= 0 && person < persons;
        }

        /** PLACE of a PERSON; 0 if none such is told, as the language wants it. */
        int placeOf(int person) {
            return person >= 0 && person < persons && person < places.length ? places[person] : 0;
        }

        int luckOf(int person) {
            return person >= 0 && person < persons && person < lucks.length ? lucks[person] : 0;
        }

        boolean isInhabited(int place) {
            for (int person = 0; person < persons; person++) {
                if (placeOf(person) == place) return true;
            }
            return false;
        }

        int leadsTo(int tide, int place) {
            int i = Math.floorMod(tide, PHASES) * PLACES + place;
            return i >= 0 && i < leads.length ? leads[i] : 0;
        }

        int driftsTo(int place, int tide, int n) {
            int at = place;
            for (int i = 0; i < n; i++) {
                at = leadsTo(tide + i, at);
            }
            return at;
        }
    }

    /** BOOK: the latest lines, the eldest first. */
    private static final class Book {
        static final int PARTS = 4;
        private static final int WHAT = 2;
        private final int[] rows = new int[MOST_LINES * PARTS];
        int lines = 0;

        void copyFrom(Book other) {
            copyRow(other.rows, rows);
            lines = other.lines;
        }

        void addLine(int tide, int bottle, int what, int at) {
            if (lines >= MOST_LINES) {
                System.arraycopy(rows, PARTS, rows, 0, rows.length - PARTS);
                lines = MOST_LINES - 1;
            }
            int i = lines * PARTS;
            if (i < 0 || i + 3 >= rows.length) return;
            rows[i] = tide;
            rows[i + 1] = bottle;
            rows[i + WHAT] = what;
            rows[i + 3] = at;
            lines++;
        }

        int part(int line, int what) {
            return cell(rows, line * PARTS + what);
        }

        int countOf(int what) {
            int count = 0;
            for (int line = 0; line < lines; line++) {
                if (part(line, WHAT) == what) count++;
            }
            return count;
        }
    }

    /** BOTTLES, TIDE, X and BOOK: all that a STEP changes, and so all that undo brings back. */
    private static final class Sea {
        private final int[] rows = new int[MOST_BOTTLES * BOTTLE_PARTS];
        final Book book = new Book();
        int bottles = 0;
        int tide = 0;
        int x = FIRST_X;

        void copyFrom(Sea other) {
            copyRow(other.rows, rows);
            book.copyFrom(other.book);
            bottles = other.bottles;
            tide = other.tide;
            x = other.x;
        }

        int get(int bottle, int what) {
            int i = bottle * BOTTLE_PARTS + what;
            return i >= 0 && i < rows.length ? rows[i] : 0;
        }

        void set(int bottle, int what, int value) {
            int i = bottle * BOTTLE_PARTS + what;
            if (i >= 0 && i < rows.length) rows[i] = value;
        }

        boolean hasBottle(int bottle) {
            return bottle >= 0 && bottle < bottles;
        }

        boolean isAfloat(int bottle) {
            return hasBottle(bottle) && get(bottle, HOW) == AFLOAT;
        }

        int addBottle(int from, int to, int at, int cork) {
            int bottle = bottles;
            bottles++;
            set(bottle, FROM, from);
            set(bottle, TO, to);
            set(bottle, AT, at);
            set(bottle, CORK, cork);
            set(bottle, HOW, AFLOAT);
            set(bottle, SINCE, tide);
            return bottle;
        }

        /** X as it is; it becomes the next one. */
        int draw() {
            int drawn = x;
            x = (x * 461 + 349) % 30637;
            return drawn;
        }

        void writeDown(int bottle, int what) {
            book.addLine(tide, bottle, what, get(bottle, AT));
        }

        int countComeTo(int person) {
            int count = 0;
            for (int bottle = 0; bottle < bottles; bottle++) {
                if (get(bottle, HOW) == COME && get(bottle, TO) == person) count++;
            }
            return count;
        }

        int countAfloatAt(int place) {
            int count = 0;
            int end = Math.min(bottles * BOTTLE_PARTS, rows.length - SINCE);
            for (int row = 0; row < end; row += BOTTLE_PARTS) {
                if (rows[row + HOW] == AFLOAT && rows[row + AT] == place) count++;
            }
            return count;
        }

        int bottlesThatAre(int how) {
            int bits = 0;
            for (int bottle = 0; bottle < bottles; bottle++) {
                if (get(bottle, HOW) == how) bits |= 1 << bottle;
            }
            return bits;
        }
    }

    /** The tape of STEPS: how the sea was ahead of each of the latest, the eldest first. */
    private static final class Steps {
        private final Sea[] seas = new Sea[MOST_STEPS];
        int count = 0;

        Steps() {
            for (int i = 0; i < seas.length; i++) {
                seas[i] = new Sea();
            }
        }

        void copyFrom(Steps other) {
            for (int i = 0; i < other.count; i++) {
                Sea mine = seaOf(i);
                Sea its = other.seaOf(i);
                if (mine != null && its != null) mine.copyFrom(its);
            }
            count = other.count;
        }

        private Sea seaOf(int i) {
            return i >= 0 && i < seas.length ? seas[i] : null;
        }

        void keep(Sea sea) {
            if (count >= MOST_STEPS) forgetEldest();
            Sea room = seaOf(count);
            if (room == null) return;
            room.copyFrom(sea);
            count++;
        }

        /** The eldest one's room goes to the end, so that none is made anew. */
        private void forgetEldest() {
            for (int i = 1; i < seas.length; i++) {
                Sea eldest = seas[i - 1];
                seas[i - 1] = seas[i];
                seas[i] = eldest;
            }
            count = MOST_STEPS - 1;
        }

        int takeBack(Sea sea) {
            Sea ahead = seaOf(count - 1);
            if (ahead == null) return NONE;
            count--;
            sea.copyFrom(ahead);
            return count;
        }
    }

    /** What was told for its own sake: FOUND, ODDS, CODES, HALVES, A before b, SAID. */
    private static final class Sayings {
        private final int[] foundPlaces = new int[MOST_FOUND];
        private final int[] foundTides = new int[MOST_FOUND];
        private final int[] words = new int[MOST_CODES];
        private final int[] unlike = new int[LETTERS];
        private final int[] earlier = new int[LETTERS];
        private final int[] saidBottles = new int[MOST_SAID];
        private final int[] saidComings = new int[MOST_SAID];
        int founds = 0;
        int codes = 0;
        int saids = 0;
        int oddsCome = 5;
        int oddsSink = 1;

        void copyFrom(Sayings other) {
            copyRow(other.foundPlaces, foundPlaces);
            copyRow(other.foundTides, foundTides);
            copyRow(other.words, words);
            copyRow(other.unlike, unlike);
            copyRow(other.earlier, earlier);
            copyRow(other.saidBottles, saidBottles);
            copyRow(other.saidComings, saidComings);
            founds = other.founds;
            codes = other.codes;
            saids = other.saids;
            oddsCome = other.oddsCome;
            oddsSink = other.oddsSink;
        }

        int forgetFound() {
            founds = 0;
            return founds;
        }

        int addFound(int place, int n) {
            if (founds >= MOST_FOUND) return OTHER;
            setCell(foundPlaces, founds, place);
            setCell(foundTides, founds, n);
            founds++;
            return founds;
        }

        boolean allFoundFrom(Shore shore, int place, int phase) {
            for (int i = 0; i < founds; i++) {
                if (shore.driftsTo(place, phase, cell(foundTides, i)) != cell(foundPlaces, i)) return false;
            }
            return true;
        }

        int forgetCodes() {
            codes = 0;
            return codes;
        }

        int addCode(int word) {
            if (codes >= MOST_CODES) return OTHER;
            for (int i = 0; i < codes; i++) {
                if (word(i) == word) return OTHER;
            }
            setCell(words, codes, word);
            codes++;
            return codes;
        }

        int word(int i) {
            return cell(words, i);
        }

        boolean addHalves(int a, int b) {
            if (!areUnlikeLetters(a, b) || (unlikeOf(a) & 1 << b) != 0) return false;
            setCell(unlike, a, unlikeOf(a) | 1 << b);
            setCell(unlike, b, unlikeOf(b) | 1 << a);
            return true;
        }

        /** The letters (bits) that who reads this one may not read. */
        int unlikeOf(int letter) {
            return cell(unlike, letter);
        }

        boolean addWrites(int a, int b) {
            if (!areUnlikeLetters(a, b) || (earlierThan(b) & 1 << a) != 0) return false;
            setCell(earlier, b, earlierThan(b) | 1 << a);
            return true;
        }

        /** The letters (bits) that were told to be before this one. */
        int earlierThan(int letter) {
            return cell(earlier, letter);
        }

        private static boolean areUnlikeLetters(int a, int b) {
            return within(a, 0, LETTERS - 1) && within(b, 0, LETTERS - 1) && a != b;
        }

        int forgetSaid() {
            saids = 0;
            return saids;
        }

        int addSaid(int bottle, int comes) {
            if (saids >= MOST_SAID) return OTHER;
            setCell(saidBottles, saids, bottle);
            setCell(saidComings, saids, comes);
            saids++;
            return saids;
        }

        int saidBottle(int i) {
            return cell(saidBottles, i);
        }

        int saidComes(int i) {
            return cell(saidComings, i);
        }
    }

    /** All that an image has. */
    private static final class World {
        final Shore shore = new Shore();
        final Sea sea = new Sea();
        final Steps steps = new Steps();
        final Sayings sayings = new Sayings();
        private final Text[] scripts = new Text[MOST_TEXTS];
        int texts = 0;
        int ruling = NONE;

        void copyFrom(World other) {
            shore.copyFrom(other.shore);
            sea.copyFrom(other.sea);
            steps.copyFrom(other.steps);
            sayings.copyFrom(other.sayings);
            // A TEXT never changes once it is read, so both worlds may hold the same one.
            for (int i = 0; i < scripts.length && i < other.scripts.length; i++) {
                scripts[i] = other.scripts[i];
            }
            texts = other.texts;
            ruling = other.ruling;
        }

        int addText(Text text) {
            if (texts < 0 || texts >= scripts.length) return NONE;
            scripts[texts] = text;
            texts++;
            return texts - 1;
        }

        /** A TEXT, or null if there is none of that number. */
        Text textOf(int i) {
            return i >= 0 && i < texts && i < scripts.length ? scripts[i] : null;
        }

        /** THE TEXT, or null for none. */
        Text rules() {
            return textOf(ruling);
        }
    }

    /** A TEXT that was read; it never changes. */
    private static final class Text {
        static final int CLAUSE_PARTS = 4;

        /** Of each CLAUSE the TOKEN that begins it and up to three NUMBERS. */
        private final int[] clauses;

        /** The laws' signs, as Laws works them off; null without. */
        final int[] comes;
        final int[] wears;

        Text(int[] clauses, int[] comes, int[] wears) {
            this.clauses = clauses;
            this.comes = comes;
            this.wears = wears;
        }

        int countClauses() {
            return clauses.length / CLAUSE_PARTS;
        }

        int part(int clause, int what) {
            return cell(clauses, clause * CLAUSE_PARTS + what);
        }
    }

    /** The tape's bytes, and its TOKENS one by one. */
    private static final class Tape {
        static final int END = 0;
        static final int BAD = 1;
        static final int NUMBER = 2;
        static final int AT_MOST = 3;
        static final int AT_LEAST = 4;
        static final int BELOW = 5;
        static final int ABOVE = 6;
        static final int SAME = 7;
        static final int OTHER_THAN = 8;
        static final int PLUS = 9;
        static final int MINUS = 10;
        static final int TIMES = 11;
        static final int OVER = 12;
        static final int OPEN = 13;
        static final int CLOSE = 14;
        static final int STOP = 15;

        /** The words, from FIRST_WORD on in the order of WORDS. */
        private static final String WORDS =
            "comes wears person current toss fish again tide since cork luck at from to near by later than places if then else end or and not ";
        private static final int FIRST_WORD = 16;
        static final int COMES = 16;
        static final int WEARS = 17;
        static final int PERSON = 18;
        static final int CURRENT = 19;
        static final int TOSS = 20;
        static final int FISH = 21;
        static final int AGAIN = 22;
        static final int TIDE = 23;
        static final int SINCE_WORD = 24;
        static final int CORK_WORD = 25;
        static final int LUCK = 26;
        static final int AT_WORD = 27;
        static final int FROM_WORD = 28;
        static final int TO_WORD = 29;
        static final int NEAR = 30;
        static final int BY = 31;
        static final int LATER = 32;
        static final int THAN = 33;
        static final int PLACES_WORD = 34;
        static final int IF = 35;
        static final int THEN = 36;
        static final int ELSE = 37;
        static final int END_WORD = 38;
        static final int OR = 39;
        static final int AND = 40;
        static final int NOT = 41;

        /** The byte that stands for no byte: behind the last one. */
        private static final int NO_BYTE = -1;

        /** In place of how many letters are alike: a word is another one already. */
        private static final int UNLIKE = -1;

        private final int[] bytes = new int[MOST_BYTES];
        int length = 0;

        /** The TOKEN that was come to: what it is, its first byte, and of a NUMBER how much. */
        int kind = END;
        int start = 0;
        int value = 0;
        private int next = 0;

        boolean hasRoom(int n) {
            return length + n <= MOST_BYTES;
        }

        void addFour(int four) {
            for (int shift = 24; shift >= 0; shift -= 8) {
                setCell(bytes, length, four >> shift & 255);
                length++;
            }
        }

        void comeToFirst() {
            next = 0;
            comeToNext();
        }

        void comeToNext() {
            for (int i = 0; i < MOST_BYTES && (byteAt(next) == ' ' || byteAt(next) == '\n'); i++) {
                next++;
            }
            start = next;
            int first = byteAt(start);
            if (first == NO_BYTE) {
                kind = END;
            } else if (isDigit(first)) {
                readNumber();
            } else if (isLetter(first)) {
                readWord();
            } else {
                readSign(first);
            }
        }

        private int byteAt(int i) {
            return i >= 0 && i < length && i < bytes.length ? bytes[i] : NO_BYTE;
        }

        private static boolean isDigit(int sign) {
            return sign >= '0' && sign <= '9';
        }

        private static boolean isLetter(int sign) {
            return sign >= 'a' && sign <= 'z' || sign >= 'A' && sign <= 'Z';
        }

        /** Of a NUMBER that is too great it only matters that it is. */
        private void readNumber() {
            kind = NUMBER;
            value = 0;
            for (int i = 0; i < MOST_BYTES && isDigit(byteAt(next)); i++) {
                value = Math.min(value * 10 + byteAt(next) - '0', MOST_NUMBER + 1);
                next++;
            }
        }

        private void readWord() {
            for (int i = 0; i < MOST_BYTES && isLetter(byteAt(next)); i++) {
                next++;
            }
            kind = BAD;
            int word = FIRST_WORD;
            int alike = 0;
            for (int i = 0; i < WORDS.length(); i++) {
                char letter = WORDS.charAt(i);
                if (letter == ' ') {
                    if (alike == next - start) kind = word;
                    word++;
                    alike = 0;
                } else if (alike != UNLIKE) {
                    alike = byteAt(start + alike) == letter ? alike + 1 : UNLIKE;
                }
            }
        }

        private void readSign(int first) {
            boolean equalsBehind = byteAt(next + 1) == '=';
            next++;
            kind = signKind(first);
            if (!equalsBehind) return;
            if (kind == BELOW) {
                kind = AT_MOST;
                next++;
            } else if (kind == ABOVE) {
                kind = AT_LEAST;
                next++;
            }
        }

        private static int signKind(int sign) {
            switch (sign) {
                case '<':
                    return BELOW;
                case '>':
                    return ABOVE;
                case '=':
                    return SAME;
                case '#':
                    return OTHER_THAN;
                case '+':
                    return PLUS;
                case '-':
                    return MINUS;
                case '*':
                    return TIMES;
                case '/':
                    return OVER;
                case '(':
                    return OPEN;
                case ')':
                    return CLOSE;
                case ';':
                    return STOP;
                default:
                    return BAD;
            }
        }
    }

    /**
     * Reads a tape as a TEXT. A law becomes a row of signs in which each stands behind what it works on, so that
     * Laws needs no recursion. What comes to a FAULT first stays: behind it nothing is looked at.
     */
    private static final class Grammar {
        private static final int CANT_STAND = 1;
        private static final int NOT_TOLD = 2;
        private static final int TOO_DEEP = 3;
        private static final int TWICE = 4;
        private static final int NOT_ITS_NAME = 5;
        private static final int TOO_MANY = 6;
        private static final int MOST_OPEN = 8;

        private final int[] clauses = new int[MOST_CLAUSES * Text.CLAUSE_PARTS];
        private final int[] signs = new int[MOST_BYTES];
        private int clauseCount;
        private int signCount;
        private int open;
        private boolean inWears;
        private int[] comes;
        private int[] wears;
        int fault;
        int faultPlace;

        /** The TEXT; null, if it has a FAULT. */
        Text readAll(Tape tape) {
            clauseCount = 0;
            open = 0;
            comes = null;
            wears = null;
            fault = 0;
            faultPlace = NONE;
            tape.comeToFirst();
            for (int i = 0; i <= MOST_CLAUSES && fault == 0 && tape.kind != Tape.END; i++) {
                if (canBegin(tape)) readClause(tape);
            }
            if (fault != 0) return null;
            int numbers = Math.max(0, clauseCount * Text.CLAUSE_PARTS);
            return new Text(Arrays.copyOf(clauses, numbers), comes, wears);
        }

        private void refuse(Tape tape, int what) {
            if (fault != 0) return;
            fault = what;
            faultPlace = tape.start;
        }

        private boolean sees(Tape tape, int kind) {
            return fault == 0 && tape.kind == kind;
        }

        private void want(Tape tape, int kind) {
            if (sees(tape, kind)) {
                tape.comeToNext();
            } else {
                refuse(tape, CANT_STAND);
            }
        }

        private boolean canBegin(Tape tape) {
            int kind = tape.kind;
            if (kind < Tape.COMES || kind > Tape.TIDE) {
                refuse(tape, CANT_STAND);
            } else if (kind == Tape.COMES && comes != null || kind == Tape.WEARS && wears != null) {
                refuse(tape, TWICE);
            } else if (clauseCount >= MOST_CLAUSES) {
                refuse(tape, TOO_MANY);
            }
            return fault == 0;
        }

        private void readClause(Tape tape) {
            int kind = tape.kind;
            notePart(0, kind);
            tape.comeToNext();
            if (kind == Tape.COMES || kind == Tape.WEARS) {
                signCount = 0;
                inWears = kind == Tape.WEARS;
                readSum(tape);
                endLaw();
            } else {
                readNumbers(tape, kind);
            }
            want(tape, Tape.STOP);
            clauseCount++;
        }

        private void endLaw() {
            int[] law = Arrays.copyOf(signs, Math.max(0, signCount));
            if (inWears) {
                wears = law;
            } else {
                comes = law;
            }
        }

        private void notePart(int what, int value) {
            setCell(clauses, clauseCount * Text.CLAUSE_PARTS + what, value);
        }

        private void readNumbers(Tape tape, int kind) {
            switch (kind) {
                case Tape.PERSON:
                    readNumber(tape, 1, 0, PLACES - 1);
                    want(tape, Tape.LUCK);
                    readNumber(tape, 2, 0, MOST_LUCK);
                    break;
                case Tape.CURRENT:
                    readNumber(tape, 1, 0, PHASES - 1);
                    want(tape, Tape.FROM_WORD);
                    readNumber(tape, 2, 0, PLACES - 1);
                    want(tape, Tape.TO_WORD);
                    readNumber(tape, 3, 0, PLACES - 1);
                    break;
                case Tape.TOSS:
                    readNumber(tape, 1, 0, MOST_PERSONS - 1);
                    want(tape, Tape.TO_WORD);
                    readNumber(tape, 2, 0, MOST_PERSONS - 1);
                    want(tape, Tape.CORK_WORD);
                    readNumber(tape, 3, 1, MOST_CORK);
                    break;
                case Tape.FISH:
                    readNumber(tape, 1, 0, MOST_BOTTLES - 1);
                    want(tape, Tape.BY);
                    readNumber(tape, 2, 0, MOST_PERSONS - 1);
                    break;
                case Tape.AGAIN:
                    readNumber(tape, 1, 0, MOST_BOTTLES - 1);
                    break;
                default:
                    readNumber(tape, 1, 1, MOST_TIDES);
                    break;
            }
        }

        /** Reads a NUMBER as the so-manyth part of the CLAUSE. */
        private void readNumber(Tape tape, int what, int low, int high) {
            if (!sees(tape, Tape.NUMBER)) {
                refuse(tape, CANT_STAND);
            } else if (!within(tape.value, low, high)) {
                refuse(tape, NOT_TOLD);
            } else {
                notePart(what, tape.value);
                tape.comeToNext();
            }
        }

        /** Adds a sign to the law: where it stands. There are never more than the tape has bytes. */
        private int addSign(int kind, int with) {
            int place = signCount;
            setCell(signs, place, Laws.sign(kind, with));
            signCount++;
            return place;
        }

        /** Lets a skip lead to behind the latest sign. */
        private void leadHere(int skip, int kind) {
            setCell(signs, skip, Laws.sign(kind, signCount - 1 - skip));
        }

        private void readSum(Tape tape) {
            readProduct(tape);
            for (int i = 0; i < MOST_BYTES && (sees(tape, Tape.PLUS) || sees(tape, Tape.MINUS)); i++) {
                int kind = tape.kind;
                tape.comeToNext();
                readProduct(tape);
                addSign(kind, 0);
            }
        }

        private void readProduct(Tape tape) {
            readOne(tape);
            for (int i = 0; i < MOST_BYTES && (sees(tape, Tape.TIMES) || sees(tape, Tape.OVER)); i++) {
                int kind = tape.kind;
                tape.comeToNext();
                readOne(tape);
                addSign(kind, 0);
            }
        }

        private void readOne(Tape tape) {
            if (fault != 0) return;
            if (tape.kind == Tape.NUMBER) {
                readPlainNumber(tape);
            } else if (tape.kind >= Tape.TIDE && tape.kind <= Tape.NEAR) {
                readName(tape);
            } else if (!isOpener(tape.kind)) {
                refuse(tape, CANT_STAND);
            } else if (open >= MOST_OPEN) {
                refuse(tape, TOO_DEEP);
            } else {
                open++;
                readOpened(tape);
                open--;
            }
        }

        private static boolean isOpener(int kind) {
            return kind == Tape.OPEN || kind == Tape.MINUS || kind == Tape.LATER || kind == Tape.PLACES_WORD
                || kind == Tape.IF;
        }

        private void readPlainNumber(Tape tape) {
            if (tape.value > MOST_NUMBER) {
                refuse(tape, NOT_TOLD);
                return;
            }
            addSign(Tape.NUMBER, tape.value);
            tape.comeToNext();
        }

        private void readName(Tape tape) {
            if (inWears && tape.kind == Tape.NEAR) {
                refuse(tape, NOT_ITS_NAME);
                return;
            }
            addSign(tape.kind, 0);
            tape.comeToNext();
        }

        private void readOpened(Tape tape) {
            int kind = tape.kind;
            tape.comeToNext();
            switch (kind) {
                case Tape.OPEN:
                    readSum(tape);
                    want(tape, Tape.CLOSE);
                    break;
                case Tape.LATER:
                    readOne(tape);
                    want(tape, Tape.THAN);
                    readOne(tape);
                    addSign(Tape.LATER, 0);
                    break;
                case Tape.IF:
                    readIf(tape);
                    break;
                case Tape.MINUS:
                    readOne(tape);
                    addSign(Laws.NEGATE, 0);
                    break;
                default:
                    readOne(tape);
                    addSign(kind, 0);
                    break;
            }
        }

        private void readIf(Tape tape) {
            readEither(tape);
            want(tape, Tape.THEN);
            int toElse = addSign(Laws.SKIP_UNLESS, 0);
            readSum(tape);
            want(tape, Tape.ELSE);
            int toEnd = addSign(Laws.SKIP, 0);
            leadHere(toElse, Laws.SKIP_UNLESS);
            readSum(tape);
            want(tape, Tape.END_WORD);
            leadHere(toEnd, Laws.SKIP);
        }

        private void readEither(Tape tape) {
            readBoth(tape);
            for (int i = 0; i < MOST_BYTES && sees(tape, Tape.OR); i++) {
                tape.comeToNext();
                readBoth(tape);
                addSign(Tape.OR, 0);
            }
        }

        private void readBoth(Tape tape) {
            readAsk(tape);
            for (int i = 0; i < MOST_BYTES && sees(tape, Tape.AND); i++) {
                tape.comeToNext();
                readAsk(tape);
                addSign(Tape.AND, 0);
            }
        }

        private void readAsk(Tape tape) {
            if (fault != 0) return;
            if (tape.kind != Tape.NOT) {
                readComparison(tape);
            } else if (open >= MOST_OPEN) {
                refuse(tape, TOO_DEEP);
            } else {
                open++;
                readDenied(tape);
                open--;
            }
        }

        private void readDenied(Tape tape) {
            tape.comeToNext();
            readAsk(tape);
            addSign(Tape.NOT, 0);
        }

        private void readComparison(Tape tape) {
            readSum(tape);
            int kind = tape.kind;
            if (kind < Tape.AT_MOST || kind > Tape.OTHER_THAN) {
                refuse(tape, CANT_STAND);
                return;
            }
            if (fault != 0) return;
            tape.comeToNext();
            readSum(tape);
            addSign(kind, 0);
        }
    }

    /** Works off the laws of a TEXT, and lets a TIDE pass by them. */
    private static final class Laws {
        static final int NEGATE = 50;
        static final int SKIP = 51;
        static final int SKIP_UNLESS = 52;
        private static final int KINDS = 64;
        private static final int MOST = 1000000;
        private static final int MOST_WEARS = 99;

        /** No more stand here than a law has signs. */
        private final int[] stack = new int[MOST_BYTES];
        private int top = 0;

        static int sign(int kind, int with) {
            return with * KINDS + kind;
        }

        /** A TIDE: how many BOTTLES come. */
        int passTide(Sea sea, Shore shore, Text text) {
            int came = 0;
            for (int bottle = 0; bottle < sea.bottles; bottle++) {
                if (sea.get(bottle, HOW) != AFLOAT) continue;
                sea.set(bottle, AT, shore.leadsTo(sea.tide, sea.get(bottle, AT)));
                int cork = Math.max(0, sea.get(bottle, CORK) - wearsOf(text, sea, shore, bottle));
                sea.set(bottle, CORK, cork);
                if (cork == 0) {
                    sea.set(bottle, HOW, SUNK);
                    sea.writeDown(bottle, BOOK_SANK);
                } else if (sea.get(bottle, AT) == shore.placeOf(sea.get(bottle, TO))) {
                    int drawn = sea.draw() % ODDS;
                    if (drawn >= comesOf(text, sea, shore, bottle)) continue;
                    sea.set(bottle, HOW, COME);
                    sea.writeDown(bottle, BOOK_CAME);
                    came++;
                }
            }
            sea.tide++;
            return came;
        }

        int comesOf(Text text, Sea sea, Shore shore, int bottle) {
            if (text == null || text.comes == null) return shore.luckOf(sea.get(bottle, TO)) + 1;
            return Math.max(0, Math.min(ODDS, workOff(text.comes, sea, shore, bottle)));
        }

        int wearsOf(Text text, Sea sea, Shore shore, int bottle) {
            if (text == null || text.wears == null) return 1;
            return Math.max(0, Math.min(MOST_WEARS, workOff(text.wears, sea, shore, bottle)));
        }

        private int workOff(int[] law, Sea sea, Shore shore, int bottle) {
            top = 0;
            for (int i = 0; i >= 0 && i < law.length; i++) {
                int kind = law[i] % KINDS;
                int with = law[i] / KINDS;
                if (kind == SKIP) {
                    i += Math.max(0, with);
                } else if (kind == SKIP_UNLESS) {
                    if (pop() == 0) i += Math.max(0, with);
                } else if (kind == Tape.NUMBER) {
                    push(with);
                } else if (kind >= Tape.TIDE && kind <= Tape.NEAR) {
                    push(named(kind, sea, shore, bottle));
                } else if (kind == Tape.PLACES_WORD) {
                    push(shore.placeOf(pop()));
                } else if (kind == NEGATE) {
                    push(-pop());
                } else if (kind == Tape.NOT) {
                    push(pop() == 0 ? 1 : 0);
                } else {
                    int second = pop();
                    push(joined(kind, pop(), second));
                }
            }
            return pop();
        }

        private void push(int value) {
            if (top < 0 || top >= stack.length) return;
            stack[top] = value;
            top++;
        }

        private int pop() {
            if (top <= 0 || top > stack.length) return 0;
            top--;
            return stack[top];
        }

        private static int named(int kind, Sea sea, Shore shore, int bottle) {
            switch (kind) {
                case Tape.TIDE:
                    return sea.tide;
                case Tape.SINCE_WORD:
                    return sea.tide - sea.get(bottle, SINCE);
                case Tape.CORK_WORD:
                    return sea.get(bottle, CORK);
                case Tape.LUCK:
                    return shore.luckOf(sea.get(bottle, TO));
                case Tape.AT_WORD:
                    return sea.get(bottle, AT);
                case Tape.FROM_WORD:
                    return sea.get(bottle, FROM);
                case Tape.TO_WORD:
                    return sea.get(bottle, TO);
                default:
                    return sea.countAfloatAt(sea.get(bottle, AT));
            }
        }

        private static int joined(int kind, int a, int b) {
            switch (kind) {
                case Tape.PLUS:
                    return limited((long) a + b);
                case Tape.MINUS:
                    return limited((long) a - b);
                case Tape.TIMES:
                    return limited((long) a * b);
                case Tape.OVER:
                    return b == 0 ? 0 : limited((long) a / b);
                case Tape.LATER:
                    return limited(Math.max(0L, (long) a - b));
                case Tape.AND:
                    return a & b;
                case Tape.OR:
                    return a | b;
                default:
                    return compares(kind, a, b) ? 1 : 0;
            }
        }

        private static int limited(long value) {
            return (int) Math.max(-MOST, Math.min(MOST, value));
        }

        private static boolean compares(int kind, int a, int b) {
            switch (kind) {
                case Tape.AT_MOST:
                    return a <= b;
                case Tape.AT_LEAST:
                    return a >= b;
                case Tape.BELOW:
                    return a < b;
                case Tape.ABOVE:
                    return a > b;
                case Tape.SAME:
                    return a == b;
                default:
                    return a != b;
            }
        }
    }

    /** SOONEST and RELAY: who has a BOTTLE when, corks and coming aside. */
    private static final class Routes {
        private static final int MOST_LEG = 20;
        private static final int MOST_BETWEEN = MOST_PERSONS - 2;

        /** How long the latest one that was met had waited. */
        int waited = 0;

        private final int[] between = new int[MOST_BETWEEN];
        private final int[] best = new int[MOST_BETWEEN];
        int bestCount = 0;
        private int bestTime = NONE;
        private int goal = 0;
        private int wanted = 0;

        /**
         * The fewest TIDES, MOST_TIDES at most, in which a BOTTLE kept by one from a TIDE on and then drifting for so
         * many at most is AT the PLACE of another one; of like ones with the least wait; NONE: never.
         */
        int meet(Shore shore, int from, int to, int tide, int mostDrift) {
            int total = NONE;
            for (int wait = 0; wait <= MOST_WAIT; wait++) {
                int at = shore.placeOf(from);
                int most = Math.min(mostDrift, (total == NONE ? MOST_TIDES + 1 : total) - wait - 1);
                for (int drift = 1; drift <= most; drift++) {
                    at = shore.leadsTo(tide + wait + drift - 1, at);
                    if (at != shore.placeOf(to)) continue;
                    total = wait + drift;
                    waited = wait;
                    break;
                }
            }
            return total;
        }

        /** The fewest TIDES of a RELAY; NONE: never. Its way is best then. */
        int relayTime(Shore shore, int from, int to, int tide) {
            bestTime = NONE;
            bestCount = 0;
            goal = to;
            int mostBetween = Math.min(MOST_BETWEEN, shore.persons - 2);
            // By rising count, and within it by rising PERSONS: so the first of the like ones is the one that is due.
            for (int count = 0; count <= mostBetween; count++) {
                wanted = count;
                goOn(shore, from, tide, 0, 0, 1 << from | 1 << to);
            }
            return bestTime;
        }

        int bestBetween(int i) {
            return cell(best, i);
        }

        /** One PERSON has it behind so many TIDES; all ways on from there. Its depth is that of the PERSONS between. */
        private void goOn(Shore shore, int person, int tide, int time, int depth, int used) {
            if (depth >= wanted) {
                arrive(shore, person, tide, time);
                return;
            }
            for (int next = 0; next < shore.persons; next++) {
                if ((used & 1 << next) == 0) goBy(next, shore, person, tide, time, depth, used);
            }
        }

        /** Goes on by one PERSON more. */
        private void goBy(int next, Shore shore, int person, int tide, int time, int depth, int used) {
            int leg = meet(shore, person, next, tide + time, MOST_LEG);
            if (leg == NONE || time + leg > MOST_TIDES) return;
            setCell(between, depth, next);
            goOn(shore, next, tide, time + leg, depth + 1, used | 1 << next);
        }

        private void arrive(Shore shore, int person, int tide, int time) {
            int leg = meet(shore, person, goal, tide + time, MOST_LEG);
            if (leg == NONE || time + leg > MOST_TIDES) return;
            if (bestTime != NONE && time + leg >= bestTime) return;
            bestTime = time + leg;
            bestCount = wanted;
            copyRow(between, best);
        }
    }

    /** CODES, SORTERS and ORDERS. */
    private static final class Riddles {
        private static final int WORD_DIGITS = 4;
        private static final int NUMBER_DIGITS = 9;
        private static final int FAR = 1000000;

        /** Digits of the shortest row in which one half is ahead by a word's rest behind so many digits. */
        private final int[] least = new int[MOST_CODES * WORD_DIGITS];
        private final long[] readings = new long[NUMBER_DIGITS + 1];
        private final int[] sorters = new int[LETTERS];
        private final long[] orderings = new long[1 << LETTERS];
        private int shortest = FAR;
        private boolean nearer = false;

        boolean isWord(int word) {
            if (!within(word, 1, MOST_NUMBER)) return false;
            int rest = word;
            for (int i = 0; i < WORD_DIGITS && rest > 0; i++) {
                if (rest % 10 == 0) return false;
                rest /= 10;
            }
            return true;
        }

        /** 1 with so many noughts. */
        private static int tenTo(int noughts) {
            int ten = 1;
            for (int i = 0; i < noughts && i < NUMBER_DIGITS; i++) {
                ten *= 10;
            }
            return ten;
        }

        private static int withoutLast(int number, int digits) {
            int ten = tenTo(digits);
            return ten == 0 ? 0 : number / ten;
        }

        private static int lastOf(int number, int digits) {
            int ten = tenTo(digits);
            return ten == 0 ? 0 : number % ten;
        }

        private static int digitsOf(int number) {
            int rest = number;
            for (int digits = 0; digits < NUMBER_DIGITS; digits++) {
                if (rest <= 0) return digits;
                rest /= 10;
            }
            return NUMBER_DIGITS;
        }

        private static boolean startsWith(int row, int head) {
            int behind = digitsOf(row) - digitsOf(head);
            return behind >= 0 && withoutLast(row, behind) == head;
        }

        /** How many digits the shortest row has that is two unlike rows of words; NONE: all are clear. */
        int shortestUnclear(Sayings sayings) {
            Arrays.fill(least, FAR);
            shortest = FAR;
            nearer = true;
            for (int longer = 0; longer < sayings.codes; longer++) {
                for (int head = 0; head < sayings.codes; head++) {
                    int row = sayings.word(longer);
                    boolean begins = longer != head && startsWith(row, sayings.word(head));
                    if (begins) come(longer, digitsOf(sayings.word(head)), digitsOf(row));
                }
            }
            // No shortest row comes to the same rest twice: so many passes as there are rests will do.
            for (int pass = 0; pass < least.length && nearer; pass++) {
                nearer = false;
                passOver(sayings);
            }
            return shortest == FAR ? NONE : shortest;
        }

        private void passOver(Sayings sayings) {
            for (int code = 0; code < sayings.codes; code++) {
                for (int behind = 1; behind < WORD_DIGITS; behind++) {
                    int digits = cell(least, code * WORD_DIGITS + behind);
                    if (digits >= FAR) continue;
                    for (int word = 0; word < sayings.codes; word++) {
                        putBehind(sayings, code, behind, word, digits);
                    }
                }
            }
        }

        /** The half that lags gets one more word, which must fit to the rest that the other is ahead by. */
        private void putBehind(Sayings sayings, int code, int behind, int next, int digits) {
            int length = digitsOf(sayings.word(code)) - behind;
            int rest = lastOf(sayings.word(code), length);
            int word = sayings.word(next);
            int more = digitsOf(word) - length;
            if (word == rest) {
                shortest = Math.min(shortest, digits);
            } else if (more < 0 && startsWith(rest, word)) {
                come(code, behind + digitsOf(word), digits);
            } else if (more > 0 && startsWith(word, rest)) {
                come(next, length, digits + more);
            }
        }

        private void come(int code, int behind, int digits) {
            int i = code * WORD_DIGITS + behind;
            if (cell(least, i) <= digits) return;
            setCell(least, i, digits);
            nearer = true;
        }

        long countReadings(Sayings sayings, int number) {
            int digits = digitsOf(number);
            for (int end = 0; end <= digits && end < readings.length; end++) {
                readings[end] = end == 0 ? 1 : 0;
                int head = withoutLast(number, digits - end);
                for (int i = 0; i < sayings.codes; i++) {
                    int word = sayings.word(i);
                    int length = digitsOf(word);
                    if (length <= 0 || length > end || lastOf(head, length) != word) continue;
                    readings[end] += readings[end - length];
                }
            }
            return digits < readings.length ? readings[digits] : 0;
        }

        /** The fewest sorters; who has which letter is in sorters then. */
        int fewestSorters(Sayings sayings, int n) {
            for (int count = 0; count < n; count++) {
                if (share(sayings, sorters, 0, n, count)) return count;
            }
            share(sayings, sorters, 0, n, n);
            return n;
        }

        int sorterOf(int letter) {
            return cell(sorters, letter);
        }

        /** Gives the letters from one on to so many sorters, the lowest first. Its depth is that of the letters. */
        private static boolean share(Sayings sayings, int[] sorters, int letter, int n, int count) {
            if (letter >= n || letter >= LETTERS) return true;
            // Who reads a letter first is never of a higher number than that letter, if the lowest are chosen.
            for (int sorter = 0; sorter < count && sorter <= letter; sorter++) {
                if (!mayRead(sayings, sorters, letter, sorter)) continue;
                setCell(sorters, letter, sorter);
                if (share(sayings, sorters, letter + 1, n, count)) return true;
            }
            return false;
        }

        private static boolean mayRead(Sayings sayings, int[] sorters, int letter, int sorter) {
            for (int other = 0; other < letter; other++) {
                if ((sayings.unlikeOf(letter) & 1 << other) != 0 && cell(sorters, other) == sorter) return false;
            }
            return true;
        }

        /** In how many orders each is as told, and one letter is before another too (NONE: just as told). */
        long countOrders(Sayings sayings, int n, int first, int then) {
            int all = (1 << n) - 1;
            for (int set = 0; set <= all && set < orderings.length; set++) {
                orderings[set] = set == 0 ? 1 : 0;
                for (int last = 0; last < n; last++) {
                    int others = set & ~(1 << last);
                    int ahead = sayings.earlierThan(last) & all;
                    if (last == then && first >= 0) ahead |= 1 << first;
                    if (others < set && others >= 0 && (ahead & ~others) == 0) orderings[set] += orderings[others];
                }
            }
            return all >= 0 && all < orderings.length ? orderings[all] : 0;
        }
    }
}
