import java.math.BigInteger;
import java.util.ArrayDeque;
import java.util.ArrayList;
import java.util.Arrays;
import java.util.Comparator;
import java.util.Deque;
import java.util.HashMap;
import java.util.List;
import java.util.Map;
import java.util.PriorityQueue;

/** The document told a second time, with Java's library and without haste, so that random runs have answers. */
final class Oracle {
    static final class Bottle {
        int from, to, at, cork, how, since;

        Bottle copy() {
            Bottle b = new Bottle();
            b.from = from;
            b.to = to;
            b.at = at;
            b.cork = cork;
            b.how = how;
            b.since = since;
            return b;
        }
    }

    static final class Script {
        final List<List<String>> clauses = new ArrayList<>();

        List<String> law(String name) {
            for (List<String> clause : clauses) if (clause.get(0).equals(name)) return clause;
            return null;
        }
    }

    /** What a step takes back. */
    static final class Sea {
        List<Bottle> bottles = new ArrayList<>();
        int tide = 0;
        long x = 227;
        List<int[]> book = new ArrayList<>();

        Sea copy() {
            Sea sea = new Sea();
            for (Bottle b : bottles) sea.bottles.add(b.copy());
            sea.tide = tide;
            sea.x = x;
            sea.book.addAll(book);
            return sea;
        }
    }

    static final class All {
        List<int[]> persons = new ArrayList<>();
        Map<String, Integer> currents = new HashMap<>();
        Sea sea = new Sea();
        Deque<Sea> steps = new ArrayDeque<>();
        List<Script> texts = new ArrayList<>();
        int by = -1;
        List<int[]> found = new ArrayList<>();
        int come = 5, sink = 1;
        List<Integer> codes = new ArrayList<>();
        List<int[]> halves = new ArrayList<>();
        List<int[]> writes = new ArrayList<>();
        List<int[]> said = new ArrayList<>();

        All copy() {
            All all = new All();
            all.persons.addAll(persons);
            all.currents.putAll(currents);
            all.sea = sea.copy();
            for (Sea step : steps) all.steps.addLast(step.copy());
            all.texts.addAll(texts);
            all.by = by;
            all.found.addAll(found);
            all.come = come;
            all.sink = sink;
            all.codes.addAll(codes);
            all.halves.addAll(halves);
            all.writes.addAll(writes);
            all.said.addAll(said);
            return all;
        }
    }

    All all = new All();
    All image;
    List<Integer> tape = new ArrayList<>();
    long fault = -1, faultPlace = -1;

    Oracle() {
        for (int p = 0; p < 10; p++) {
            all.currents.put("0 " + p, (p + 1) % 10);
            all.currents.put("1 " + p, (p + 3) % 10);
            all.currents.put("2 " + p, p);
        }
        image = all.copy();
    }

    // ---- small words ----

    private boolean person(long p) {
        return p >= 0 && p < all.persons.size();
    }

    private boolean bottle(long b) {
        return b >= 0 && b < all.sea.bottles.size();
    }

    private static boolean in(long v, long low, long high) {
        return low <= v && v <= high;
    }

    private int lead(int tide, int place) {
        return all.currents.get(tide % 3 + " " + place);
    }

    private int place(int person) {
        return all.persons.get(person)[0];
    }

    private int drift(int place, int tide, int n) {
        return n == 0 ? place : drift(lead(tide, place), tide + 1, n - 1);
    }

    // ---- laws ----

    private int comes(Script script, Sea sea, Bottle b) {
        List<String> law = script == null ? null : script.law("comes");
        if (law == null) return all.persons.get(b.to)[1] + 1;
        return (int) Math.max(0, Math.min(10, new Worker(law, sea, b).whole()));
    }

    private int wears(Script script, Sea sea, Bottle b) {
        List<String> law = script == null ? null : script.law("wears");
        if (law == null) return 1;
        return (int) Math.max(0, Math.min(99, new Worker(law, sea, b).whole()));
    }

    private Script rules() {
        return all.by < 0 ? null : all.texts.get(all.by);
    }

    /** Works out a law from its words, as it reads them. */
    private final class Worker {
        final List<String> words;
        final Sea sea;
        final Bottle b;
        int next = 1;

        Worker(List<String> words, Sea sea, Bottle b) {
            this.words = words;
            this.sea = sea;
            this.b = b;
        }

        long whole() {
            return sum();
        }

        private String peek() {
            return words.get(next);
        }

        private String take() {
            return words.get(next++);
        }

        private long clip(long v) {
            return v > 1000000 ? 1000000 : v < -1000000 ? -1000000 : v;
        }

        private long sum() {
            long v = product();
            while (peek().equals("+") || peek().equals("-")) {
                if (take().equals("+")) v = clip(v + product());
                else v = clip(v - product());
            }
            return v;
        }

        private long product() {
            long v = one();
            while (peek().equals("*") || peek().equals("/")) {
                if (take().equals("*")) {
                    v = clip(v * one());
                } else {
                    long d = one();
                    v = d == 0 ? 0 : v / d;
                }
            }
            return v;
        }

        private long one() {
            String word = take();
            if (Character.isDigit(word.charAt(0))) return new BigInteger(word).longValueExact();
            switch (word) {
                case "(": {
                    long v = sum();
                    take();
                    return v;
                }
                case "-": return -one();
                case "later": {
                    long v = one();
                    take();
                    return clip(Math.max(0, v - one()));
                }
                case "places": {
                    long v = one();
                    return v >= 0 && v < all.persons.size() ? place((int) v) : 0;
                }
                case "if": {
                    boolean asked = either();
                    take();
                    long yes = sum();
                    take();
                    long no = sum();
                    take();
                    return asked ? yes : no;
                }
                case "tide": return sea.tide;
                case "since": return sea.tide - b.since;
                case "cork": return b.cork;
                case "luck": return all.persons.get(b.to)[1];
                case "at": return b.at;
                case "from": return b.from;
                case "to": return b.to;
                case "near": return sea.bottles.stream().filter(o -> o.how == 0 && o.at == b.at).count();
                default: throw new IllegalStateException(word);
            }
        }

        private boolean either() {
            boolean v = both();
            while (peek().equals("or")) {
                take();
                v = both() || v;
            }
            return v;
        }

        private boolean both() {
            boolean v = ask();
            while (peek().equals("and")) {
                take();
                v = ask() && v;
            }
            return v;
        }

        private boolean ask() {
            if (peek().equals("not")) {
                take();
                return !ask();
            }
            long a = sum();
            String sign = take();
            long c = sum();
            switch (sign) {
                case "<": return a < c;
                case "<=": return a <= c;
                case ">": return a > c;
                case ">=": return a >= c;
                case "=": return a == c;
                default: return a != c;
            }
        }
    }

    // ---- texts ----

    private static final String NAMES = " tide since cork luck at from to near ";

    /** Walks over the bytes with a stack of what is still to come; "up" ends what is open. */
    private Script parse() {
        fault = 0;
        faultPlace = -1;
        Script script = new Script();
        List<String> clause = new ArrayList<>();
        Deque<String> due = new ArrayDeque<>();
        due.push("text");
        int at = 0;
        int open = 0;
        String law = "";
        while (true) {
            while (at < tape.size() && (tape.get(at) == 32 || tape.get(at) == 10)) at++;
            String token = tokenAt(at);
            boolean taken = false;
            while (!taken) {
                String want = due.pop();
                int refused = 0;
                boolean opens = "( later places if -".contains(token) && !token.isEmpty() && !token.equals("p")
                    && Arrays.asList("(", "later", "places", "if", "-").contains(token);
                switch (want) {
                    case "up": open--; break;
                    case "text":
                        if (token.isEmpty()) return script;
                        String shape = shapeOf(token);
                        if (shape == null) refused = 1;
                        else if ((token.equals("comes") || token.equals("wears")) && script.law(token) != null) refused = 4;
                        else if (script.clauses.size() == 24) refused = 6;
                        else {
                            law = token;
                            due.push("text");
                            pushAll(due, shape);
                            clause = new ArrayList<>();
                            script.clauses.add(clause);
                            taken = true;
                        }
                        break;
                    case "SUM": pushAll(due, "PRODUCT SUMS"); break;
                    case "PRODUCT": pushAll(due, "ONE ONES"); break;
                    case "EITHER": pushAll(due, "BOTH BOTHS"); break;
                    case "BOTH": pushAll(due, "ASK ASKS"); break;
                    case "SUMS":
                        if (token.equals("+") || token.equals("-")) {
                            taken = true;
                            pushAll(due, "PRODUCT SUMS");
                        }
                        break;
                    case "ONES":
                        if (token.equals("*") || token.equals("/")) {
                            taken = true;
                            pushAll(due, "ONE ONES");
                        }
                        break;
                    case "BOTHS":
                        if (token.equals("or")) {
                            taken = true;
                            pushAll(due, "BOTH BOTHS");
                        }
                        break;
                    case "ASKS":
                        if (token.equals("and")) {
                            taken = true;
                            pushAll(due, "ASK ASKS");
                        }
                        break;
                    case "ASK":
                        if (!token.equals("not")) pushAll(due, "SUM SIGN SUM");
                        else if (open == 8) refused = 3;
                        else {
                            taken = true;
                            open++;
                            pushAll(due, "ASK up");
                        }
                        break;
                    case "SIGN":
                        if (Arrays.asList("<", "<=", ">", ">=", "=", "#").contains(token)) taken = true;
                        else refused = 1;
                        break;
                    case "ONE":
                        if (!token.isEmpty() && Character.isDigit(token.charAt(0))) {
                            if (tooBig(token, 9999)) refused = 2;
                            else taken = true;
                        } else if (!token.isEmpty() && NAMES.contains(" " + token + " ")) {
                            if (law.equals("wears") && token.equals("near")) refused = 5;
                            else taken = true;
                        } else if (!opens) refused = 1;
                        else if (open == 8) refused = 3;
                        else {
                            taken = true;
                            open++;
                            if (token.equals("(")) pushAll(due, "SUM ) up");
                            else if (token.equals("later")) pushAll(due, "ONE than ONE up");
                            else if (token.equals("if")) pushAll(due, "EITHER then SUM else SUM end up");
                            else pushAll(due, "ONE up");
                        }
                        break;
                    default:
                        if (want.startsWith("N")) {
                            String[] ends = want.substring(1).split(":");
                            if (token.isEmpty() || !Character.isDigit(token.charAt(0))) refused = 1;
                            else if (tooBig(token, Integer.parseInt(ends[1]))
                                || new BigInteger(token).intValue() < Integer.parseInt(ends[0])) refused = 2;
                            else taken = true;
                        } else if (want.equals(token)) taken = true;
                        else refused = 1;
                }
                if (refused != 0) {
                    fault = refused;
                    faultPlace = at;
                    return null;
                }
            }
            clause.add(token);
            at += token.length();
        }
    }

    private static boolean tooBig(String digits, int most) {
        return new BigInteger(digits).compareTo(BigInteger.valueOf(most)) > 0;
    }

    private static void pushAll(Deque<String> due, String symbols) {
        String[] parts = symbols.split(" ");
        for (int i = parts.length - 1; i >= 0; i--) due.push(parts[i]);
    }

    private static String shapeOf(String token) {
        switch (token) {
            case "comes": return "SUM ;";
            case "wears": return "SUM ;";
            case "person": return "N0:9 luck N0:9 ;";
            case "current": return "N0:2 from N0:9 to N0:9 ;";
            case "toss": return "N0:5 to N0:5 cork N1:99 ;";
            case "fish": return "N0:11 by N0:5 ;";
            case "again": return "N0:11 ;";
            case "tide": return "N1:60 ;";
            default: return null;
        }
    }

    /** The token at a place; "" at the end, "?" for none. */
    private String tokenAt(int at) {
        if (at >= tape.size()) return "";
        StringBuilder rest = new StringBuilder();
        for (int i = at; i < tape.size(); i++) rest.append((char) (int) tape.get(i));
        String s = rest.toString();
        java.util.regex.Matcher m = java.util.regex.Pattern.compile("^([a-zA-Z]+|[0-9]+|<=|>=|[<>=#+\\-*/();])").matcher(s);
        return m.find() ? m.group() : "?";
    }

    // ---- steps ----

    private void step() {
        all.steps.addLast(all.sea.copy());
        if (all.steps.size() > 30) all.steps.removeFirst();
    }

    private void write(Sea sea, int bottle, int what) {
        sea.book.add(new int[] {sea.tide, bottle, what, sea.bottles.get(bottle).at});
        if (sea.book.size() > 30) sea.book.remove(0);
    }

    private int pass(Sea sea) {
        int came = 0;
        for (int i = 0; i < sea.bottles.size(); i++) {
            Bottle b = sea.bottles.get(i);
            if (b.how != 0) continue;
            b.at = lead(sea.tide, b.at);
            b.cork = Math.max(0, b.cork - wears(rules(), sea, b));
            if (b.cork == 0) {
                b.how = 2;
                write(sea, i, 1);
            } else if (b.at == place(b.to)) {
                long drawn = sea.x % 10;
                sea.x = (sea.x * 461 + 349) % 30637;
                if (drawn < comes(rules(), sea, b)) {
                    b.how = 1;
                    write(sea, i, 0);
                    came++;
                }
            }
        }
        sea.tide++;
        return came;
    }

    private int toss(long from, long to, long cork, boolean step) {
        if (!person(from) || !person(to) || from == to || !in(cork, 1, 99) || all.sea.bottles.size() == 12) return -1;
        if (step) step();
        Bottle b = new Bottle();
        b.from = (int) from;
        b.to = (int) to;
        b.at = place(b.from);
        b.cork = (int) cork;
        b.since = all.sea.tide;
        all.sea.bottles.add(b);
        return all.sea.bottles.size() - 1;
    }

    private boolean fish(long bottle, long person, boolean step) {
        if (!bottle(bottle) || !person(person)) return false;
        Bottle b = all.sea.bottles.get((int) bottle);
        if (b.how != 0 || b.from == person || b.at != place((int) person)) return false;
        if (step) step();
        all.sea.bottles.get((int) bottle).how = 3 + (int) person;
        write(all.sea, (int) bottle, 2);
        return true;
    }

    private boolean again(long bottle, boolean step) {
        if (!bottle(bottle) || all.sea.bottles.get((int) bottle).how < 3) return false;
        if (step) step();
        Bottle b = all.sea.bottles.get((int) bottle);
        b.at = place(b.how - 3);
        b.how = 0;
        return true;
    }

    private int tides(int n) {
        int came = 0;
        for (int i = 0; i < n && all.sea.tide < 9999; i++) {
            step();
            came += pass(all.sea);
        }
        return came;
    }

    private int addPerson(long place, long luck) {
        if (!in(place, 0, 9) || !in(luck, 0, 9) || all.persons.size() == 6) return -1;
        all.persons.add(new int[] {(int) place, (int) luck});
        return all.persons.size() - 1;
    }

    private long played(long text) {
        if (!in(text, 0, all.texts.size() - 1)) return -2;
        List<List<String>> clauses = all.texts.get((int) text).clauses;
        for (int i = 0; i < clauses.size(); i++) {
            List<String> c = clauses.get(i);
            int[] n = c.stream().filter(w -> Character.isDigit(w.charAt(0))).mapToInt(w -> new BigInteger(w).intValue()).toArray();
            boolean can = true;
            switch (c.get(0)) {
                case "person": can = addPerson(n[0], n[1]) >= 0; break;
                case "current": all.currents.put(n[0] + " " + n[1], n[2]); break;
                case "toss": can = toss(n[0], n[1], n[2], true) >= 0; break;
                case "fish": can = fish(n[0], n[1], true); break;
                case "again": can = again(n[0], true); break;
                case "tide":
                    can = all.sea.tide + n[0] <= 9999;
                    tides(n[0]);
                    break;
                default: break;
            }
            if (!can) return i;
        }
        return -1;
    }

    private long years(int seed, int n) {
        if (!in(seed, 0, 9999) || !in(n, 1, 40)) return -1;
        step();
        all.sea.x = seed * 2L + 227;
        for (int i = 0; i < n; i++) {
            long x = all.sea.x;
            all.sea.x = (x * 461 + 349) % 30637;
            int persons = all.persons.size();
            int bottles = all.sea.bottles.size();
            switch ((int) (x % 6)) {
                case 0:
                case 1:
                    if (persons > 0) toss(x % persons, x / 6 % persons, 1 + x % 30, false);
                    break;
                case 2:
                    if (persons > 0 && bottles > 0) fish(x % bottles, x / 6 % persons, false);
                    break;
                case 3:
                    if (bottles > 0) again(x % bottles, false);
                    break;
                default:
                    if (all.sea.tide < 9999) pass(all.sea);
            }
        }
        return all.sea.tide;
    }

    // ---- foretold ----

    private int[] soonest(int from, int to, int tide, int mostDrift) {
        int[] best = null;
        for (int w = 0; w <= 9; w++) {
            for (int d = 1; d <= mostDrift && w + d <= 60; d++) {
                if (drift(place(from), tide + w, d) != place(to)) continue;
                if (best == null || w + d < best[0]) best = new int[] {w + d, w};
            }
        }
        return best;
    }

    private List<Integer> relay(int from, int to) {
        List<List<Integer>> ways = new ArrayList<>();
        spread(from, to, 0, new ArrayList<>(), ways);
        ways.sort(Comparator.<List<Integer>>comparingInt(w -> w.get(0)).thenComparingInt(List::size)
            .thenComparing((a, b) -> {
                for (int i = 0; i < a.size(); i++) if (!a.get(i).equals(b.get(i))) return a.get(i) - b.get(i);
                return 0;
            }));
        return ways.isEmpty() ? null : ways.get(0);
    }

    private void spread(int first, int to, int time, List<Integer> path, List<List<Integer>> ways) {
        int holder = path.isEmpty() ? first : path.get(path.size() - 1);
        int[] last = soonest(holder, to, all.sea.tide + time, 20);
        if (last != null && time + last[0] <= 60) {
            List<Integer> way = new ArrayList<>(path);
            way.add(0, time + last[0]);
            ways.add(way);
        }
        for (int p = 0; p < all.persons.size(); p++) {
            if (p == first || p == to || path.contains(p)) continue;
            int[] leg = soonest(holder, p, all.sea.tide + time, 20);
            if (leg == null || time + leg[0] > 60) continue;
            path.add(p);
            spread(first, to, time + leg[0], path, ways);
            path.remove(path.size() - 1);
        }
    }

    /** How likely it comes from a place on within n tides, in parts of 10 to the n. */
    private BigInteger chance(int at, int to, int tide, int n) {
        if (n == 0) return BigInteger.ZERO;
        int there = lead(tide, at);
        BigInteger later = chance(there, to, tide + 1, n - 1);
        if (there != place(to)) return later.multiply(BigInteger.valueOf(10 - all.sink));
        return later.multiply(BigInteger.valueOf(10 - all.sink - all.come))
            .add(BigInteger.TEN.pow(n - 1).multiply(BigInteger.valueOf(all.come)));
    }

    // ---- codes, sorters, orders ----

    private int shortestUnclear() {
        PriorityQueue<Map.Entry<Integer, String>> queue = new PriorityQueue<>(Map.Entry.comparingByKey());
        for (int u : all.codes) {
            for (int v : all.codes) {
                String a = "" + u, b = "" + v;
                if (u != v && b.startsWith(a)) queue.add(Map.entry(b.length(), b.substring(a.length())));
            }
        }
        List<String> seen = new ArrayList<>();
        while (!queue.isEmpty()) {
            Map.Entry<Integer, String> e = queue.poll();
            String rest = e.getValue();
            if (rest.isEmpty()) return e.getKey();
            if (seen.contains(rest)) continue;
            seen.add(rest);
            for (int w : all.codes) {
                String word = "" + w;
                if (rest.startsWith(word)) queue.add(Map.entry(e.getKey(), rest.substring(word.length())));
                else if (word.startsWith(rest))
                    queue.add(Map.entry(e.getKey() + word.length() - rest.length(), word.substring(rest.length())));
            }
        }
        return -1;
    }

    private long readings(String row) {
        if (row.isEmpty()) return 1;
        long ways = 0;
        for (int w : all.codes) if (row.startsWith("" + w)) ways += readings(row.substring(("" + w).length()));
        return ways;
    }

    private int[] best;
    private int bestCount;

    private int[] sorters(int n) {
        best = null;
        bestCount = 99;
        share(new int[n], 0, 0);
        return best;
    }

    private void share(int[] who, int letter, int count) {
        if (letter == who.length) {
            if (count < bestCount) {
                best = who.clone();
                bestCount = count;
            }
            return;
        }
        for (int s = 0; s <= count; s++) {
            boolean may = true;
            for (int[] h : all.halves) {
                if (h[0] == letter && h[1] < letter && who[h[1]] == s) may = false;
                if (h[1] == letter && h[0] < letter && who[h[0]] == s) may = false;
            }
            if (!may) continue;
            who[letter] = s;
            share(who, letter + 1, Math.max(count, s + 1));
        }
    }

    /** All orders as told, and in how many of them a is before b. */
    private long[] orders(int n, int a, int b) {
        long[] counts = new long[2];
        order(n, new ArrayList<>(), a, b, counts);
        return counts;
    }

    private void order(int n, List<Integer> row, int a, int b, long[] counts) {
        if (row.size() == n) {
            counts[0]++;
            if (row.indexOf(a) < row.indexOf(b)) counts[1]++;
            return;
        }
        for (int next = 0; next < n; next++) {
            if (row.contains(next)) continue;
            boolean may = true;
            for (int[] w : all.writes) if (w[1] == next && w[0] < n && !row.contains(w[0])) may = false;
            if (!may) continue;
            row.add(next);
            order(n, row, a, b, counts);
            row.remove(row.size() - 1);
        }
    }

    private static boolean has(List<int[]> pairs, int a, int b) {
        return pairs.stream().anyMatch(p -> p[0] == a && p[1] == b);
    }

    // ---- the calls ----

    long call(String name, int[] a) {
        Sea sea = all.sea;
        switch (name) {
            case "person": return addPerson(a[0], a[1]);
            case "current":
                if (!in(a[0], 0, 2) || !in(a[1], 0, 9) || !in(a[2], 0, 9)) return 0;
                all.currents.put(a[0] + " " + a[1], a[2]);
                return 1;
            case "feed":
                if (tape.size() + 20 > 300) return -1;
                for (int v : a) for (int s = 3; s >= 0; s--) tape.add(v >>> 8 * s & 255);
                return tape.size();
            case "end":
                if (!in(a[0], 0, tape.size())) return -1;
                tape = new ArrayList<>(tape.subList(0, a[0]));
                return a[0];
            case "text": {
                if (all.texts.size() == 4) return -1;
                Script script = parse();
                tape.clear();
                if (script == null) return -1;
                all.texts.add(script);
                return all.texts.size() - 1;
            }
            case "fault": return a[0] == 0 ? fault : a[0] == 1 ? faultPlace : -1;
            case "by":
                if (!in(a[0], -1, all.texts.size() - 1)) return 0;
                all.by = a[0];
                return 1;
            case "toss": return toss(a[0], a[1], a[2], true);
            case "fish": return fish(a[0], a[1], true) ? 1 : 0;
            case "again": return again(a[0], true) ? 1 : 0;
            case "tide": return !in(a[0], 1, 60) || sea.tide + a[0] > 9999 ? -1 : tides(a[0]);
            case "played": return played(a[0]);
            case "years": return years(a[0], a[1]);
            case "undo":
                if (all.steps.isEmpty()) return -1;
                all.sea = all.steps.removeLast();
                return all.steps.size();
            case "image":
                image = all.copy();
                return sea.tide;
            case "back":
                all = image.copy();
                return all.sea.tide;
            default: return ask(name, a);
        }
    }

    private long ask(String name, int[] a) {
        Sea sea = all.sea;
        switch (name) {
            case "of":
                if (!person(a[0]) || !in(a[1], 0, 3)) return -1;
                if (a[1] < 2) return all.persons.get(a[0])[a[1]];
                if (a[1] == 2) return sea.bottles.stream().filter(b -> b.how == 1 && b.to == a[0]).count();
                return bits(3 + a[0]);
            case "ofBottle": {
                if (!bottle(a[0]) || !in(a[1], 0, 7)) return -2;
                Bottle b = sea.bottles.get(a[0]);
                return new int[] {b.from, b.to, b.at, b.cork, b.how, b.since, comes(rules(), sea, b), wears(rules(), sea, b)}[a[1]];
            }
            case "told": return in(a[0], 0, 2) && in(a[1], 0, 9) ? all.currents.get(a[0] + " " + a[1]) : -1;
            case "is":
                return a[0] == 0 ? sea.tide : a[0] == 1 ? sea.x : a[0] == 2 ? bits(0) : a[0] == 3 ? sea.bottles.size() : -2;
            case "book":
                if (a[0] == -1) return sea.book.size();
                return in(a[0], 0, sea.book.size() - 1) && in(a[1], 0, 3) ? sea.book.get(a[0])[a[1]] : -2;
            case "foretold": {
                if (!in(a[0], 1, 60) || !bottle(a[1]) || !in(a[2], 0, 2)) return -1;
                Sea ahead = sea.copy();
                for (int i = 0; i < a[0] && ahead.tide < 9999; i++) pass(ahead);
                Bottle b = ahead.bottles.get(a[1]);
                return new int[] {b.at, b.cork, b.how}[a[2]];
            }
            case "ends": {
                if (!bottle(a[0]) || sea.bottles.get(a[0]).how != 0) return -1;
                Sea ahead = sea.copy();
                for (int i = 1; i <= 60; i++) {
                    if (ahead.tide == 9999) return -1;
                    pass(ahead);
                    if (ahead.bottles.get(a[0]).how != 0) return i;
                }
                return -1;
            }
            case "drift": return in(a[0], 0, 9) && in(a[1], 0, 60) ? drift(a[0], sea.tide, a[1]) : -1;
            case "soonest": {
                if (!person(a[0]) || !person(a[1]) || !in(a[2], 0, 1)) return -1;
                int[] way = soonest(a[0], a[1], sea.tide, 60);
                return way == null ? -1 : way[a[2]];
            }
            case "relay": {
                if (!person(a[0]) || !person(a[1]) || a[0] == a[1]) return -2;
                List<Integer> way = relay(a[0], a[1]);
                if (way == null) return -2;
                return in(a[2], -1, way.size() - 2) ? way.get(a[2] + 1) : -2;
            }
            case "found":
                if (a[0] == -1) {
                    all.found.clear();
                    return 0;
                }
                if (!in(a[0], 0, 9) || !in(a[1], 1, 60) || all.found.size() == 6) return -2;
                all.found.add(a.clone());
                return all.found.size();
            case "tossed": {
                if (!in(a[0], 0, 1)) return -1;
                long places = 0, count = 0;
                for (int p = 0; p < 30; p++) {
                    int from = p / 3, phase = p % 3;
                    if (!all.found.stream().allMatch(f -> drift(from, phase, f[1]) == f[0])) continue;
                    places |= 1L << from;
                    count++;
                }
                return a[0] == 0 ? places : count;
            }
            case "likely": {
                if (!in(a[0], 0, 9) || !person(a[1]) || !in(a[2], 1, 8)) return -1;
                BigInteger upper = chance(a[0], a[1], sea.tide, a[2]);
                BigInteger lower = BigInteger.TEN.pow(a[2]);
                BigInteger gcd = upper.gcd(lower);
                return (a[3] == 0 ? upper : lower).divide(gcd).longValueExact();
            }
            case "odds":
                if (!in(a[0], 0, 10) || !in(a[1], 0, 10) || a[0] + a[1] > 10) return 0;
                all.come = a[0];
                all.sink = a[1];
                return 1;
            default: return askMore(name, a);
        }
    }

    private long bits(int how) {
        long bits = 0;
        for (int i = 0; i < all.sea.bottles.size(); i++) if (all.sea.bottles.get(i).how == how) bits |= 1L << i;
        return bits;
    }

    private long askMore(String name, int[] a) {
        Sea sea = all.sea;
        switch (name) {
            case "code":
                if (a[0] == -1) {
                    all.codes.clear();
                    return 0;
                }
                if (!in(a[0], 1, 9999) || ("" + a[0]).contains("0") || all.codes.contains(a[0]) || all.codes.size() == 8) return -2;
                all.codes.add(a[0]);
                return all.codes.size();
            case "clear": {
                int row = shortestUnclear();
                return a[0] == 0 ? (row < 0 ? 1 : 0) : a[0] == 1 ? row : -1;
            }
            case "reads": return in(a[0], 1, 999999999) ? readings("" + a[0]) : -1;
            case "halves":
                if (!in(a[0], 0, 7) || !in(a[1], 0, 7) || a[0] == a[1]) return 0;
                if (has(all.halves, a[0], a[1]) || has(all.halves, a[1], a[0])) return 0;
                all.halves.add(a.clone());
                return 1;
            case "sorters": return in(a[0], 0, 8) ? Arrays.stream(sorters(a[0])).max().orElse(-1) + 1 : -1;
            case "sorter": return in(a[0], 0, 8) && in(a[1], 0, a[0] - 1) ? sorters(a[0])[a[1]] : -1;
            case "writes":
                if (!in(a[0], 0, 7) || !in(a[1], 0, 7) || a[0] == a[1] || has(all.writes, a[0], a[1])) return 0;
                all.writes.add(a.clone());
                return 1;
            case "orders": return in(a[0], 0, 8) ? orders(a[0], 0, 0)[0] : -1;
            case "sure": {
                if (!in(a[0], 0, 8) || !in(a[1], 0, a[0] - 1) || !in(a[2], 0, a[0] - 1) || a[1] == a[2]) return -2;
                long[] counts = orders(a[0], a[1], a[2]);
                return counts[0] == 0 ? -2 : counts[1] == counts[0] ? 1 : counts[1] == 0 ? -1 : 0;
            }
            case "said":
                if (a[0] == -1) {
                    all.said.clear();
                    return 0;
                }
                if (!bottle(a[0]) || !in(a[1], 0, 10) || all.said.size() == 8) return -2;
                all.said.add(a.clone());
                return all.said.size();
            case "whose": {
                long bits = 0;
                for (int t = 0; t < all.texts.size(); t++) {
                    Script script = all.texts.get(t);
                    if (all.said.stream().filter(s -> bottle(s[0]))
                        .allMatch(s -> comes(script, sea, sea.bottles.get(s[0])) == s[1])) bits |= 1L << t;
                }
                return bits;
            }
            case "luckiest": return mostOf(all.persons.size(), p -> sea.bottles.stream().filter(b -> b.how == 1 && b.to == p).count());
            case "eldest": {
                int eldest = -1;
                for (int i = sea.bottles.size() - 1; i >= 0; i--) {
                    Bottle b = sea.bottles.get(i);
                    if (b.how == 0 && (eldest < 0 || b.since <= sea.bottles.get(eldest).since)) eldest = i;
                }
                return eldest;
            }
            case "crowd": return mostOf(10, p -> sea.bottles.stream().filter(b -> b.how == 0 && b.at == p).count());
            case "empty": {
                long bits = 1023;
                for (int[] p : all.persons) bits &= ~(1L << p[0]);
                for (Bottle b : sea.bottles) if (b.how == 0) bits &= ~(1L << b.at);
                return bits;
            }
            case "ledger": return in(a[0], 0, 2) ? sea.book.stream().filter(l -> l[2] == a[0]).count() : -2;
            case "about":
                switch (a[0]) {
                    case 0: return all.persons.size();
                    case 1: return all.texts.size();
                    case 2: return all.by;
                    case 3: return all.steps.size();
                    case 4: return all.found.size();
                    case 5: return all.codes.size();
                    case 6: return all.said.size();
                    case 7: return tape.size();
                    default: return -2;
                }
            default: throw new IllegalStateException(name);
        }
    }

    private static long mostOf(int n, java.util.function.IntToLongFunction count) {
        long best = -1, most = 0;
        for (int i = 0; i < n; i++) {
            if (count.applyAsLong(i) > most) {
                most = count.applyAsLong(i);
                best = i;
            }
        }
        return best;
    }
}
