import java.util.ArrayDeque;
import java.util.ArrayList;
import java.util.Deque;
import java.util.List;

/**
 * The document told a second time, as slowly and plainly as can be: every WAY is written out, TEXTS
 * are trees, what can be undone is whole copies. DifferentialTest holds SplitFares against it.
 */
final class Model {
    static final int NONE = -1;

    /** PURSE, AT, DAY, TICKETS. */
    static final class Hand {
        int purse = 1000;
        int at = 0;
        int day = 0;
        int[][][] held = new int[3][8][8];

        Hand copy() {
            Hand h = new Hand();
            h.purse = purse;
            h.at = at;
            h.day = day;
            for (int s = 0; s < 3; s++) {
                for (int f = 0; f < 8; f++) {
                    h.held[s][f] = held[s][f].clone();
                }
            }
            return h;
        }

        int all() {
            int n = 0;
            for (int[][] sort : held) {
                for (int[] from : sort) {
                    for (int k : from) {
                        n += k;
                    }
                }
            }
            return n;
        }
    }

    static final class State {
        List<int[]> trains = new ArrayList<>();
        List<int[]> told = new ArrayList<>();
        List<Text> laws = new ArrayList<>();
        int force = NONE;
        int checks = 1;
        int mood = 0;
        Hand hand = new Hand();

        State copy() {
            State s = new State();
            s.trains = new ArrayList<>(trains);
            s.told = new ArrayList<>(told);
            s.laws = new ArrayList<>(laws);
            s.force = force;
            s.checks = checks;
            s.mood = mood;
            s.hand = hand.copy();
            return s;
        }
    }

    record Undo(int kind, Hand before) { }

    // ---- TEXTS as trees

    static final class Broken extends RuntimeException {
        private static final long serialVersionUID = 1L;
    }

    static final class Faulty extends RuntimeException {
        private static final long serialVersionUID = 1L;
        final int place;

        Faulty(int place) {
            this.place = place;
        }
    }

    /** A tree: op is "#" (a number), "w" (a word) or a sign or "or", "and", "not". */
    static final class Node {
        final String op;
        final List<Node> parts = new ArrayList<>();
        long number;
        String word;

        Node(String op) {
            this.op = op;
        }
    }

    record Clause(String kind, Node first, Node second, int times, Node test) { }

    record Text(List<Clause> clauses) { }

    interface Words {
        long tell(String word);
    }

    static long checked(long v) {
        if (v > 1_000_000_000L || v < -1_000_000_000L) {
            throw new Broken();
        }
        return v;
    }

    static long value(Node n, Words words) {
        switch (n.op) {
            case "#":
                return n.number;
            case "w":
                return words.tell(n.word);
            default:
                break;
        }
        long a = value(n.parts.get(0), words);
        long b = value(n.parts.get(1), words);
        switch (n.op) {
            case "+":
                return checked(a + b);
            case "-":
                return checked(a - b);
            case "*":
                return checked(a * b);
            default:
                break;
        }
        if (b == 0) {
            throw new Broken();
        }
        long whole = Math.abs(a) / Math.abs(b) * Long.signum(a) * Long.signum(b);
        return checked(n.op.equals("/") ? whole : a - whole * b);
    }

    static boolean so(Node n, Words words) {
        switch (n.op) {
            case "or":
                for (Node p : n.parts) {
                    if (so(p, words)) {
                        return true;
                    }
                }
                return false;
            case "and":
                for (Node p : n.parts) {
                    if (!so(p, words)) {
                        return false;
                    }
                }
                return true;
            case "not":
                return !so(n.parts.get(0), words);
            default:
                break;
        }
        long a = value(n.parts.get(0), words);
        long b = value(n.parts.get(1), words);
        return n.op.equals("<") ? a < b : n.op.equals(">") ? a > b : a == b;
    }

    static boolean holdsTest(Node test, Words words) {
        try {
            return test == null || so(test, words);
        } catch (Broken b) {
            return false;
        }
    }

    /** Reads one TOKEN after the other from the text itself. */
    static final class Parser {
        final String text;
        final boolean orders;
        int pos = 0;
        int start;
        String token;
        int parts = 0;

        Parser(String text, boolean orders) {
            this.text = text;
            this.orders = orders;
            next();
        }

        static boolean letter(char c) {
            return c >= 'a' && c <= 'z';
        }

        static boolean digit(char c) {
            return c >= '0' && c <= '9';
        }

        void next() {
            while (pos < text.length() && text.charAt(pos) == ' ') {
                pos++;
            }
            start = pos;
            if (pos == text.length()) {
                token = "";
                return;
            }
            char c = text.charAt(pos++);
            while (pos < text.length() && (letter(c) && letter(text.charAt(pos)) || digit(c) && digit(text.charAt(pos)))) {
                pos++;
            }
            token = text.substring(start, pos);
        }

        Faulty fault() {
            return new Faulty(start);
        }

        void want(String t) {
            if (!token.equals(t)) {
                throw fault();
            }
            next();
        }

        boolean take(String t) {
            if (token.equals(t)) {
                next();
                return true;
            }
            return false;
        }

        int number(int least, int most) {
            if (token.isEmpty() || !digit(token.charAt(0))) {
                throw fault();
            }
            java.math.BigInteger n = new java.math.BigInteger(token);
            if (n.compareTo(java.math.BigInteger.valueOf(least)) < 0 || n.compareTo(java.math.BigInteger.valueOf(most)) > 0) {
                throw fault();
            }
            next();
            return n.intValue();
        }

        Text read() {
            List<Clause> clauses = new ArrayList<>();
            do {
                if (clauses.size() == 12) {
                    throw fault();
                }
                clauses.add(clause());
            } while (take(";"));
            if (!token.isEmpty()) {
                throw fault();
            }
            return new Text(clauses);
        }

        Clause clause() {
            String kind = token;
            if (!(orders ? List.of("single", "return", "ride", "save", "pass") : List.of("costs", "bars")).contains(kind)) {
                throw fault();
            }
            next();
            Node first = null;
            Node second = null;
            if (!kind.equals("bars") && !kind.equals("pass")) {
                first = sum(0);
            }
            if (List.of("single", "return", "ride").contains(kind)) {
                want("to");
                second = sum(0);
            }
            int times = orders && take("times") ? number(1, 20) : 1;
            Node test = take("if") ? test(0) : null;
            return new Clause(kind, first, second, times, test);
        }

        Node test(int depth) {
            Node n = new Node("or");
            do {
                n.parts.add(both(depth));
            } while (take("or"));
            return n;
        }

        Node both(int depth) {
            Node n = new Node("and");
            do {
                n.parts.add(plain(depth));
            } while (take("and"));
            return n;
        }

        Node plain(int depth) {
            if (take("not")) {
                Node n = new Node("not");
                n.parts.add(plain(depth));
                return n;
            }
            if (token.equals("(")) {
                if (depth == 8) {
                    throw fault();
                }
                next();
                Node n = test(depth + 1);
                want(")");
                return n;
            }
            Node a = sum(depth);
            if (!List.of("<", ">", "=").contains(token)) {
                throw fault();
            }
            return pair(token, a, () -> sum(depth));
        }

        interface Then {
            Node read();
        }

        Node pair(String op, Node a, Then then) {
            next();
            Node n = new Node(op);
            n.parts.add(a);
            n.parts.add(then.read());
            return n;
        }

        Node sum(int depth) {
            Node n = term(depth);
            while (token.equals("+") || token.equals("-")) {
                n = pair(token, n, () -> term(depth));
            }
            return n;
        }

        Node term(int depth) {
            Node n = part(depth);
            while (token.equals("*") || token.equals("/") || token.equals("%")) {
                n = pair(token, n, () -> part(depth));
            }
            return n;
        }

        Node part(int depth) {
            if (token.equals("[")) {
                if (depth == 8) {
                    throw fault();
                }
                next();
                Node n = sum(depth + 1);
                want("]");
                return n;
            }
            if (parts == 50) {
                throw fault();
            }
            parts++;
            if (!token.isEmpty() && digit(token.charAt(0))) {
                Node n = new Node("#");
                n.number = number(0, 1000);
                return n;
            }
            List<String> known = orders
                ? List.of("day", "done", "latest", "at", "purse", "held", "stops")
                : List.of("from", "to", "far", "return", "hour", "day", "mood");
            if (!known.contains(token)) {
                throw fault();
            }
            Node n = new Node("w");
            n.word = token;
            next();
            if (n.word.equals("stops")) {
                n.word = "stops " + number(0, 5);
            }
            return n;
        }
    }

    // ---- the office

    State now = new State();
    State[] images = new State[2];
    Deque<Undo> undos = new ArrayDeque<>();
    StringBuilder tape = new StringBuilder();
    int fault = NONE;
    int stopped = NONE;
    int delays = 0;
    int status = 0;
    int[] refused = new int[7];
    int[] drawn = null;

    int ok(int n) {
        status = 0;
        return n;
    }

    int no(int code) {
        status = code;
        refused[-code]++;
        return code;
    }

    int answer(int n) {
        return n < 0 ? no(n) : ok(n);
    }

    static boolean station(int s) {
        return s >= 0 && s <= 7;
    }

    static boolean pair(int from, int to) {
        return station(from) && station(to) && from != to;
    }

    boolean isTrain(int t) {
        return t >= 0 && t < now.trains.size();
    }

    int addTrain(int stops, int up, int hour) {
        if (stops < 0 || stops > 255 || Integer.bitCount(stops) < 2 || up < 0 || up > 1 || hour < 0 || hour > 23) {
            return -1;
        }
        if (now.trains.size() == 6) {
            return -5;
        }
        now.trains.add(new int[] {stops, up, hour});
        return now.trains.size() - 1;
    }

    int train(int stops, int up, int hour) {
        return answer(addTrain(stops, up, hour));
    }

    int of(int train, int what) {
        return isTrain(train) && what >= 0 && what <= 2 ? now.trains.get(train)[what] : NONE;
    }

    Words lawWords(int sort, int from, int to, int hour) {
        return w -> switch (w) {
            case "from" -> from;
            case "to" -> to;
            case "far" -> Math.abs(from - to);
            case "return" -> sort == 0 ? 0 : 1;
            case "hour" -> hour;
            case "day" -> now.hand.day;
            default -> now.mood;
        };
    }

    int cost(Text law, int sort, int from, int to) {
        int cost = Math.abs(from - to) * (sort == 0 ? 10 : 15);
        if (law == null) {
            return cost;
        }
        Words words = lawWords(sort, from, to, -1);
        for (Clause c : law.clauses()) {
            if (c.kind().equals("costs") && holdsTest(c.test(), words)) {
                try {
                    cost = (int) Math.max(0, Math.min(9999, value(c.first(), words)));
                } catch (Broken b) {
                    continue;
                }
            }
        }
        return cost;
    }

    Text inForce() {
        return now.force == NONE ? null : now.laws.get(now.force);
    }

    int cost(int sort, int from, int to) {
        return cost(inForce(), sort, from, to);
    }

    boolean barred(int train, int sort, int from, int to) {
        if (inForce() == null) {
            return false;
        }
        Words words = lawWords(sort, from, to, now.trains.get(train)[2]);
        boolean barred = false;
        for (Clause c : inForce().clauses()) {
            barred |= c.kind().equals("bars") && holdsTest(c.test(), words);
        }
        return barred;
    }

    int price(int sort, int from, int to) {
        return (sort == 0 || sort == 1) && pair(from, to) ? cost(sort, from, to) : NONE;
    }

    int isBarred(int train, int sort, int from, int to) {
        if (sort != 0 && sort != 1 || !pair(from, to) || !isTrain(train)) {
            return NONE;
        }
        return barred(train, sort, from, to) ? 1 : 0;
    }

    int held(int sort, int from, int to) {
        return sort >= 0 && sort <= 2 && pair(from, to) ? now.hand.held[sort][from][to] : NONE;
    }

    int terms(int what, int value) {
        int most = what == 0 ? 999 : what == 1 ? 10 : what == 2 ? 9 : -1;
        if (value < 0 || value > most) {
            return no(-1);
        }
        undos.clear();
        int was = what == 0 ? now.hand.day : what == 1 ? now.checks : now.mood;
        if (what == 0) {
            now.hand.day = value;
        } else if (what == 1) {
            now.checks = value;
        } else {
            now.mood = value;
        }
        return ok(was);
    }

    int feed(int a, int b, int c, int d, int e) {
        if (tape.length() > 380) {
            return NONE;
        }
        for (int n : new int[] {a, b, c, d, e}) {
            for (int i = 3; i >= 0; i--) {
                tape.append((char) ((n >> 8 * i) & 0xff));
            }
        }
        return tape.length();
    }

    int end(int n) {
        if (n < 0 || n > tape.length()) {
            return NONE;
        }
        tape.setLength(n);
        return n;
    }

    int row() {
        if (tape.length() == 0) {
            return no(-6);
        }
        String bytes = tape.toString();
        tape.setLength(0);
        int came = 0;
        delays = 0;
        while (bytes.length() >= 3) {
            if (addTrain(bytes.charAt(0), bytes.charAt(1), bytes.charAt(2)) >= 0) {
                came++;
            } else {
                delays++;
            }
            bytes = bytes.substring(3);
        }
        delays += bytes.isEmpty() ? 0 : 1;
        return ok(came);
    }

    int delays() {
        return delays;
    }

    Text read(boolean orders) {
        String text = tape.toString();
        tape.setLength(0);
        fault = NONE;
        try {
            return new Parser(text, orders).read();
        } catch (Faulty f) {
            fault = f.place;
            return null;
        }
    }

    int law() {
        if (now.laws.size() == 6) {
            tape.setLength(0);
            return no(-5);
        }
        Text law = read(false);
        if (law == null) {
            return no(-6);
        }
        now.laws.add(law);
        return ok(now.laws.size() - 1);
    }

    int orders() {
        Text text = read(true);
        stopped = NONE;
        if (text == null) {
            return no(-6);
        }
        Hand before = now.hand.copy();
        Deque<Undo> undosBefore = new ArrayDeque<>(undos);
        int[] done = {0};
        int[] latest = {NONE};
        Words words = w -> switch (w) {
            case "day" -> now.hand.day;
            case "done" -> done[0];
            case "latest" -> latest[0];
            case "at" -> now.hand.at;
            case "purse" -> now.hand.purse;
            case "held" -> now.hand.all();
            default -> {
                int t = w.charAt(6) - '0';
                yield isTrain(t) ? Integer.bitCount(now.trains.get(t)[0]) : -1;
            }
        };
        for (int i = 0; i < text.clauses().size(); i++) {
            Clause c = text.clauses().get(i);
            for (int n = 0; n < c.times(); n++) {
                if (!holdsTest(c.test(), words)) {
                    continue;
                }
                int told = order(c, words);
                if (told < 0) {
                    now.hand = before;
                    undos = undosBefore;
                    stopped = i;
                    return no(-3);
                }
                done[0]++;
                if (c.kind().equals("ride")) {
                    latest[0] = told;
                }
            }
        }
        return ok(done[0]);
    }

    int order(Clause c, Words words) {
        try {
            int a = c.first() == null ? 0 : (int) value(c.first(), words);
            int b = c.second() == null ? 0 : (int) value(c.second(), words);
            return switch (c.kind()) {
                case "single" -> doBuy(0, a, b);
                case "return" -> doBuy(1, a, b);
                case "ride" -> doRide(a, b);
                case "save" -> doSave(a);
                default -> doPass();
            };
        } catch (Broken b) {
            return -3;
        }
    }

    int fault() {
        return fault;
    }

    int stopped() {
        return stopped;
    }

    int force(int law) {
        if (law < NONE || law >= now.laws.size()) {
            return no(-2);
        }
        int was = now.force;
        now.force = law;
        return ok(was);
    }

    void keep(int kind) {
        undos.addLast(new Undo(kind, now.hand.copy()));
        if (undos.size() > 16) {
            undos.removeFirst();
        }
    }

    int doBuy(int sort, int from, int to) {
        if (sort != 0 && sort != 1 || !pair(from, to)) {
            return -1;
        }
        int cost = cost(sort, from, to);
        if (cost > now.hand.purse || now.hand.held[sort][from][to] == 9) {
            return -3;
        }
        keep(0);
        now.hand.purse -= cost;
        now.hand.held[sort][from][to]++;
        return now.hand.purse;
    }

    int doRide(int train, int to) {
        if (!station(to)) {
            return -1;
        }
        if (!isTrain(train)) {
            return -2;
        }
        List<Integer> way = heldWay(train, to);
        if (way == null) {
            return -3;
        }
        keep(1);
        for (int i = 0; i + 1 < way.size(); i++) {
            int p = way.get(i);
            int q = way.get(i + 1);
            int sort = ticketFor(train, p, q);
            now.hand.held[sort][p][q]--;
            if (sort == 1) {
                now.hand.held[2][q][p] = Math.min(9, now.hand.held[2][q][p] + 1);
            }
        }
        now.hand.at = to;
        return way.size() - 1;
    }

    int doSave(int pence) {
        if (pence < 1 || pence > 9999) {
            return -1;
        }
        keep(2);
        now.hand.purse = Math.min(99999, now.hand.purse + pence);
        return now.hand.purse;
    }

    int doPass() {
        if (now.hand.day == 999) {
            return -3;
        }
        keep(3);
        int all = now.hand.all();
        now.hand.held[2] = new int[8][8];
        now.hand.day++;
        return all - now.hand.all();
    }

    int buy(int sort, int from, int to) {
        return answer(doBuy(sort, from, to));
    }

    int ride(int train, int to) {
        return answer(doRide(train, to));
    }

    int save(int pence) {
        return answer(doSave(pence));
    }

    int pass() {
        return answer(doPass());
    }

    int undo() {
        if (undos.isEmpty()) {
            return no(-3);
        }
        Undo u = undos.removeLast();
        now.hand = u.before();
        return ok(u.kind());
    }

    // ---- WAYS, every one of them written out

    boolean stopsAt(int train, int s) {
        return (now.trains.get(train)[0] & 1 << s) != 0;
    }

    boolean goes(int train, int p, int q) {
        return isTrain(train) && pair(p, q) && stopsAt(train, p) && stopsAt(train, q)
            && (now.trains.get(train)[1] == 1 ? q > p : q < p);
    }

    /** All rows of STATIONS from p to q; of two the first is that which has the sooner STATION where they part. */
    List<List<Integer>> rows(int train, int p, int q) {
        List<List<Integer>> all = new ArrayList<>();
        if (!goes(train, p, q)) {
            return all;
        }
        int turn = q > p ? 1 : -1;
        for (int s = p + turn; s != q; s += turn) {
            for (List<Integer> rest : rows(train, s, q)) {
                all.add(ahead(p, rest));
            }
        }
        all.add(List.of(p, q));
        return all;
    }

    static List<Integer> ahead(int p, List<Integer> rest) {
        List<Integer> row = new ArrayList<>();
        row.add(p);
        row.addAll(rest);
        return row;
    }

    int singles(int train, List<Integer> row) {
        int cost = 0;
        for (int i = 0; i + 1 < row.size(); i++) {
            if (barred(train, 0, row.get(i), row.get(i + 1))) {
                return NONE;
            }
            cost += cost(0, row.get(i), row.get(i + 1));
        }
        return cost;
    }

    List<Integer> cheapestRow(int train, int p, int q) {
        List<Integer> best = null;
        for (List<Integer> row : rows(train, p, q)) {
            int cost = singles(train, row);
            if (cost >= 0 && (best == null || cost < singles(train, best))) {
                best = row;
            }
        }
        return best;
    }

    int cheapestCost(int train, int p, int q) {
        List<Integer> row = cheapestRow(train, p, q);
        return row == null ? NONE : singles(train, row);
    }

    int ticketFor(int train, int p, int q) {
        if (now.hand.held[0][p][q] > 0 && !barred(train, 0, p, q)) {
            return 0;
        }
        if (now.hand.held[2][p][q] > 0 && !barred(train, 1, q, p)) {
            return 2;
        }
        return now.hand.held[1][p][q] > 0 && !barred(train, 1, p, q) ? 1 : NONE;
    }

    List<Integer> heldWay(int train, int to) {
        List<Integer> best = null;
        for (List<Integer> row : rows(train, now.hand.at, to)) {
            boolean good = true;
            for (int i = 0; i + 1 < row.size(); i++) {
                good &= ticketFor(train, row.get(i), row.get(i + 1)) >= 0;
            }
            if (good && (best == null || row.size() < best.size())) {
                best = row;
            }
        }
        return best;
    }

    int cheapest(int train, int from, int to, int i) {
        List<Integer> row = cheapestRow(train, from, to);
        if (row == null || i < NONE) {
            return NONE;
        }
        if (i == NONE) {
            return singles(train, row);
        }
        return i < row.size() - 1 ? row.get(i + 1) : NONE;
    }

    int byAtMost(int train, int from, int to, int k) {
        int best = NONE;
        if (k < 1 || k > 7) {
            return NONE;
        }
        for (List<Integer> row : rows(train, from, to)) {
            int cost = singles(train, row);
            if (row.size() - 1 <= k && cost >= 0 && (best < 0 || cost < best)) {
                best = cost;
            }
        }
        return best;
    }

    int fewest(int train, int from, int to) {
        int best = NONE;
        for (List<Integer> row : rows(train, from, to)) {
            if (singles(train, row) >= 0 && (best < 0 || row.size() - 1 < best)) {
                best = row.size() - 1;
            }
        }
        return best;
    }

    int ways(int train, int from, int to) {
        if (!isTrain(train) || !pair(from, to)) {
            return NONE;
        }
        int n = 0;
        for (List<Integer> row : rows(train, from, to)) {
            n += singles(train, row) >= 0 ? 1 : 0;
        }
        return n;
    }

    int thereAndBack(int out, int back, int from, int to) {
        int best = NONE;
        for (List<Integer> there : rows(out, from, to)) {
            for (List<Integer> home : rows(back, to, from)) {
                int cost = together(out, back, there, home);
                if (cost >= 0 && (best < 0 || cost < best)) {
                    best = cost;
                }
            }
        }
        return best;
    }

    int together(int out, int back, List<Integer> there, List<Integer> home) {
        int sum = 0;
        boolean[] paid = new boolean[home.size()];
        for (int i = 0; i + 1 < there.size(); i++) {
            int p = there.get(i);
            int q = there.get(i + 1);
            int leg = NONE;
            for (int j = 0; j + 1 < home.size(); j++) {
                if (home.get(j) == q && home.get(j + 1) == p) {
                    leg = j;
                }
            }
            int alone = barred(out, 0, p, q) ? NONE : cost(0, p, q);
            if (leg >= 0) {
                int backAlone = barred(back, 0, q, p) ? NONE : cost(0, q, p);
                int both = alone < 0 || backAlone < 0 ? NONE : alone + backAlone;
                int ret = barred(out, 1, p, q) || barred(back, 1, p, q) ? NONE : cost(1, p, q);
                paid[leg] = true;
                alone = both < 0 ? ret : ret < 0 ? both : Math.min(both, ret);
            }
            if (alone < 0) {
                return NONE;
            }
            sum += alone;
        }
        for (int j = 0; j + 1 < home.size(); j++) {
            if (!paid[j]) {
                if (barred(back, 0, home.get(j), home.get(j + 1))) {
                    return NONE;
                }
                sum += cost(0, home.get(j), home.get(j + 1));
            }
        }
        return sum;
    }

    int saved(int train, int from, int to) {
        int cost = cheapestCost(train, from, to);
        if (cost < 0) {
            return NONE;
        }
        return barred(train, 0, from, to) ? 0 : cost(0, from, to) - cost;
    }

    int bestTrain(int from, int to) {
        int best = NONE;
        for (int t = 0; t < now.trains.size(); t++) {
            int cost = cheapestCost(t, from, to);
            if (cost >= 0 && (best < 0 || cost < cheapestCost(best, from, to))) {
                best = t;
            }
        }
        return best;
    }

    int mostSaved(int train, int what) {
        int[] best = null;
        for (int p = 0; p < 8; p++) {
            for (int q = 0; q < 8; q++) {
                int saved = saved(train, p, q);
                if (saved >= 0 && (best == null || saved > best[0])) {
                    best = new int[] {saved, p, q};
                }
            }
        }
        return best == null || what < 0 || what > 2 ? NONE : best[what];
    }

    int purseEnd() {
        int bits = 1 << now.hand.at;
        for (int t = 0; t < now.trains.size(); t++) {
            for (int s = 0; s < 8; s++) {
                int cost = cheapestCost(t, now.hand.at, s);
                bits |= cost >= 0 && cost <= now.hand.purse ? 1 << s : 0;
            }
        }
        return bits;
    }

    int used(int train, int to, int i) {
        List<Integer> way = heldWay(train, to);
        if (way == null || i < NONE || i >= way.size() - 1) {
            return NONE;
        }
        return i == NONE ? way.size() - 1 : way.get(i + 1);
    }

    int told(int station, int n) {
        if (!station(station) || n < -1 || n > 99999) {
            return no(-1);
        }
        if (now.told.size() == 6) {
            return no(-5);
        }
        now.told.add(new int[] {station, n});
        return ok(now.told.size());
    }

    int forget() {
        int n = now.told.size();
        now.told = new ArrayList<>();
        return n;
    }

    int canBe() {
        int bits = 0;
        for (int t = 0; t < now.trains.size(); t++) {
            boolean can = true;
            for (int[] told : now.told) {
                can &= cheapestCost(t, now.hand.at, told[0]) == told[1];
            }
            bits |= can ? 1 << t : 0;
        }
        return bits;
    }

    int ask(int what) {
        int can = canBe();
        if (can == 0 || what < 0 || what > 1) {
            return NONE;
        }
        int[] best = null;
        for (int s = 0; s < 8; s++) {
            java.util.Map<Integer, Integer> groups = new java.util.HashMap<>();
            for (int t = 0; t < now.trains.size(); t++) {
                if ((can & 1 << t) != 0) {
                    groups.merge(cheapestCost(t, now.hand.at, s), 1, Integer::sum);
                }
            }
            int most = java.util.Collections.max(groups.values());
            if (best == null || most < best[1]) {
                best = new int[] {s, most};
            }
        }
        return best[what];
    }

    long few(int k, int n) {
        if (k < 1 || k > 20 || n < 0 || n > 99) {
            return NONE;
        }
        long[] part = new long[n + 2];
        part[0] = 1_000_000_000_000L;
        for (int r = 0; r < n; r++) {
            long[] then = new long[n + 2];
            for (int j = 0; j <= r; j++) {
                then[j] += part[j] * (10 - now.checks) / 10;
                then[j + 1] += part[j] * now.checks / 10;
            }
            part = then;
        }
        long sum = 0;
        for (int j = 0; j < k && j <= n; j++) {
            sum += part[j];
        }
        return sum;
    }

    int compare(int law, int from, int to) {
        if (law < NONE || law >= now.laws.size() || !pair(from, to)) {
            return NONE;
        }
        return cost(law == NONE ? null : now.laws.get(law), 0, from, to);
    }

    int months(int seed, int n) {
        if (seed < 0 || seed > 1_000_000 || n < 1 || n > 60) {
            return no(-1);
        }
        if (now.trains.isEmpty()) {
            return no(-3);
        }
        Hand before = now.hand.copy();
        Deque<Undo> undosBefore = new ArrayDeque<>(undos);
        long s = seed;
        int tickets = 0;
        while (n-- > 0 && now.hand.day < 999) {
            s = (s * 1103 + 12345) % 1_000_003;
            int train = (int) (s % now.trains.size());
            s = (s * 1103 + 12345) % 1_000_003;
            int to = (int) (s % 8);
            s = (s * 1103 + 12345) % 1_000_003;
            int what = (int) (s % 4);
            if (what < 2) {
                doBuy(what, now.hand.at, to);
            } else if (what == 2) {
                tickets += Math.max(0, doRide(train, to));
            } else {
                doPass();
            }
        }
        drawn = new int[] {now.hand.purse, now.hand.at, now.hand.all(), now.hand.day};
        now.hand = before;
        undos = undosBefore;
        return ok(tickets);
    }

    int drawn(int what) {
        return drawn == null || what < 0 || what > 3 ? NONE : drawn[what];
    }

    int image(int k) {
        if (k != 0 && k != 1) {
            return no(-1);
        }
        images[k] = now.copy();
        return ok(0);
    }

    int back(int k) {
        if (k != 0 && k != 1) {
            return no(-1);
        }
        if (images[k] == null) {
            return no(-2);
        }
        now = images[k].copy();
        undos.clear();
        return ok(0);
    }

    int count(int what) {
        return switch (what) {
            case 0 -> now.trains.size();
            case 1 -> now.hand.at;
            case 2 -> now.hand.purse;
            case 3 -> now.hand.all();
            case 4 -> now.told.size();
            case 5 -> now.laws.size();
            case 6 -> undos.size();
            case 7 -> tape.length();
            case 8 -> refused[1];
            case 9 -> refused[2];
            case 10 -> refused[3];
            case 11 -> refused[5];
            case 12 -> refused[6];
            case 13 -> now.force;
            case 14 -> now.hand.day;
            case 15 -> now.checks;
            case 16 -> now.mood;
            default -> NONE;
        };
    }

    int status() {
        return status;
    }
}
