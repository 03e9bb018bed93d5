import java.util.Random;

/** Random runs of at most 512 calls, each answer held against the Model's; the seeds are fixed. */
public final class DifferentialTest {
    private static final int RUNS = 3000;
    private static final int MOST_CALLS = 512;
    // a TEXT of 400 bytes, what it becomes, what is asked behind it
    private static final int DEAREST_STEP = 28;
    private static final int ASKED_AT_THE_END = 40;

    private final Random dice;
    private final SplitFares x = new SplitFares();
    private final Model m = new Model();
    private final Texts texts;
    private String call = "";
    private int calls = 0;

    private DifferentialTest(long seed) {
        dice = new Random(seed);
        texts = new Texts(dice);
    }

    public static void main(String[] args) {
        int runs = args.length > 0 ? Integer.parseInt(args[0]) : RUNS;
        int from = args.length > 1 ? Integer.parseInt(args[1]) : 0;
        for (int run = from; run < from + runs; run++) {
            String wrong = new DifferentialTest(run).run();
            if (wrong != null) {
                System.out.println("run " + run + ": " + wrong);
                System.exit(1);
            }
        }
        System.out.println("DifferentialTest: " + runs + " runs agree with the Model");
    }

    private String run() {
        int trains = dice.nextInt(8) == 0 ? dice.nextInt(3) : 3 + dice.nextInt(4);
        for (int i = 0; i < trains; i++) {
            int stops = 1 + dice.nextInt(255) | dice.nextInt(256);
            int up = i < 2 ? i : dice.nextInt(2);
            int hour = dice.nextInt(24);
            x.train(stops, up, hour);
            m.train(stops, up, hour);
        }
        x.image(1);
        m.image(1);
        calls = trains + 1;
        for (int n = 0; calls + DEAREST_STEP + ASKED_AT_THE_END <= MOST_CALLS; n++) {
            long[] both = step();
            if (both[0] != both[1]) {
                return "step " + n + " " + call + " answered " + both[0] + ", the Model " + both[1];
            }
            String wrong = asked();
            if (wrong != null) {
                return "step " + n + " " + call + ": " + wrong;
            }
            calls += 3;
        }
        for (int n = 0; n < ASKED_AT_THE_END; n++) {
            String wrong = n < 17 ? told("count", n, x.count(n), m.count(n)) : heldAlike();
            if (wrong != null) {
                return "in the end " + wrong;
            }
        }
        return null;
    }

    /** Two questions behind each step, what differs. */
    private String asked() {
        String status = told("status", 0, x.status(), m.status());
        if (status != null) {
            return status;
        }
        int r = dice.nextInt(24);
        switch (r) {
            case 17: return told("fault", 0, x.fault(), m.fault());
            case 18: return told("stopped", 0, x.stopped(), m.stopped());
            case 19: return told("delays", 0, x.delays(), m.delays());
            case 20:
            case 21:
            case 22:
            case 23: return heldAlike();
            default: return told("count", r, x.count(r), m.count(r));
        }
    }

    private String heldAlike() {
        int sort = dice.nextInt(3);
        int p = dice.nextInt(8);
        int q = dice.nextInt(8);
        return told("held " + p + " " + q, sort, x.held(sort, p, q), m.held(sort, p, q));
    }

    private static String told(String what, int n, int got, int due) {
        return got == due ? null : what + " " + n + " is " + got + ", the Model's " + due;
    }

    /** Mostly 0 .. n - 1, now and then something beyond. */
    private int pick(int n) {
        int r = dice.nextInt(60);
        if (r == 0) {
            return -1;
        }
        if (r == 1) {
            return n;
        }
        if (r == 2) {
            return new int[] {-2, Integer.MAX_VALUE, Integer.MIN_VALUE, 64, 1 << 16}[dice.nextInt(5)];
        }
        return dice.nextInt(n);
    }

    private int aTrain() {
        return pick(Math.max(1, m.count(0)));
    }

    /** Often a TICKET that a TRAIN from AT can use, so that rides come about. */
    private int[] aLeg() {
        int from = dice.nextInt(3) > 0 ? m.count(1) : pick(8);
        int to = pick(8);
        int t = aTrain();
        int stops = m.of(t, 0);
        for (int i = 0; i < 6 && dice.nextInt(4) > 0 && (to < 0 || to > 7 || (stops >> to & 1) == 0 || (to > from) != (m.of(t, 1) == 1)); i++) {
            to = dice.nextInt(8);
        }
        return new int[] {from, to};
    }

    private long[] feedText(String text) {
        StringBuilder b = new StringBuilder(text);
        while (b.length() % 20 != 0) {
            b.append((char) dice.nextInt(256));
        }
        calls++;
        for (int i = 0; i < b.length(); i += 20) {
            calls++;
            int[] n = new int[5];
            for (int j = 0; j < 20; j++) {
                n[j / 4] = n[j / 4] << 8 | b.charAt(i + j) & 255;
            }
            long a = x.feed(n[0], n[1], n[2], n[3], n[4]);
            long c = m.feed(n[0], n[1], n[2], n[3], n[4]);
            if (a != c) {
                return new long[] {a, c};
            }
        }
        return new long[] {x.end(text.length()), m.end(text.length())};
    }

    private long[] emptyTape() {
        calls++;
        return new long[] {x.end(0), m.end(0)};
    }

    private long[] step() {
        int r = dice.nextInt(100);
        if (r < 22) {
            return stepDeed();
        }
        if (r < 40) {
            return stepText();
        }
        if (r < 55) {
            return stepState();
        }
        return r < 80 ? stepWays() : stepAsk();
    }

    private long[] stepDeed() {
        int[] leg = aLeg();
        int t = aTrain();
        int sort = pick(2);
        switch (dice.nextInt(9)) {
            case 0:
            case 1:
            case 2:
            case 3:
                call = "buy(" + sort + ", " + leg[0] + ", " + leg[1] + ")";
                return new long[] {x.buy(sort, leg[0], leg[1]), m.buy(sort, leg[0], leg[1])};
            case 4:
            case 5:
            case 6:
                int[] ride = aRide();
                call = "ride(" + ride[0] + ", " + ride[1] + ")";
                return new long[] {x.ride(ride[0], ride[1]), m.ride(ride[0], ride[1])};
            case 7:
                int pence = dice.nextInt(4) == 0 ? pick(10001) : dice.nextInt(400);
                call = "save(" + pence + ")";
                return new long[] {x.save(pence), m.save(pence)};
            default:
                if (dice.nextInt(3) > 0) {
                    call = "undo()";
                    return new long[] {x.undo(), m.undo()};
                }
                call = "pass()";
                return new long[] {x.pass(), m.pass()};
        }
    }

    /** A TRAIN and a STATION, often such that one can ride there, now and then with more than one TICKET. */
    private int[] aRide() {
        int least = dice.nextInt(4) == 0 ? 2 : 1;
        for (int i = 0; i < 30; i++) {
            int t = dice.nextInt(6);
            int s = dice.nextInt(8);
            if (m.used(t, s, -1) >= least) {
                return new int[] {t, s};
            }
        }
        return new int[] {aTrain(), pick(8)};
    }

    /** A TRAIN and two STATIONS, mostly such that it goes from the one to the other. */
    private int[] aWay() {
        for (int i = 0; i < 30 && dice.nextInt(12) > 0; i++) {
            int t = dice.nextInt(6);
            int p = dice.nextInt(8);
            int q = dice.nextInt(8);
            if (m.goes(t, p, q) && Math.abs(p - q) > dice.nextInt(4)) {
                return new int[] {t, p, q};
            }
        }
        return new int[] {aTrain(), pick(8), pick(8)};
    }

    private long[] stepText() {
        emptyTape();
        if (m.count(5) == 6 && dice.nextInt(4) == 0) {
            call = "back(1)";
            return new long[] {x.back(1), m.back(1)};
        }
        int what = dice.nextInt(10);
        if (what == 0) {
            int n = dice.nextInt(30);
            StringBuilder b = new StringBuilder();
            for (int i = 0; i < n; i++) {
                b.append((char) (i % 3 == 1 ? dice.nextInt(3) : i % 3 == 2 ? dice.nextInt(26) : dice.nextInt(256)));
            }
            call = "row() of " + n + " bytes";
            long[] fed = feedText(b.toString());
            return fed[0] != fed[1] || dice.nextInt(3) > 0 ? fed : new long[] {x.row(), m.row()};
        }
        boolean orders = what < 6;
        String text = texts.text(orders);
        call = (orders ? "orders() of \"" : "law() of \"") + text + "\"";
        long[] fed = feedText(text);
        if (fed[0] != fed[1]) {
            return fed;
        }
        if (dice.nextInt(40) == 0) {
            orders = !orders;
        }
        long a = orders ? x.orders() : x.law();
        long b = orders ? m.orders() : m.law();
        if (a != b || orders || a < 0 || dice.nextInt(4) == 0) {
            return new long[] {a, b};
        }
        calls++;
        return new long[] {x.force((int) a), m.force((int) a)};
    }

    private long[] stepState() {
        switch (dice.nextInt(12)) {
            case 0:
                int stops = pick(256);
                int up = pick(2);
                int hour = pick(24);
                call = "train(" + stops + ", " + up + ", " + hour + ")";
                return new long[] {x.train(stops, up, hour), m.train(stops, up, hour)};
            case 1:
                int what = pick(3);
                int value = what == 0 ? dice.nextInt(8) == 0 ? 995 + dice.nextInt(6) : pick(1000) : pick(what == 1 ? 11 : 10);
                call = "terms(" + what + ", " + value + ")";
                return new long[] {x.terms(what, value), m.terms(what, value)};
            case 2:
            case 3:
                int law = pick(Math.max(1, m.count(5)));
                call = "force(" + law + ")";
                return new long[] {x.force(law), m.force(law)};
            case 4:
                int k = pick(2);
                call = "image(" + k + ")";
                return new long[] {x.image(k), m.image(k)};
            case 5:
                int b = pick(2);
                call = "back(" + b + ")";
                return new long[] {x.back(b), m.back(b)};
            case 6:
            case 7:
                int s = pick(8);
                int n = tellable(s);
                call = "told(" + s + ", " + n + ")";
                return new long[] {x.told(s, n), m.told(s, n)};
            case 8:
                call = "forget()";
                return dice.nextInt(2) == 0 ? new long[] {0, 0} : new long[] {x.forget(), m.forget()};
            case 9:
                int seed = pick(1_000_001);
                int times = pick(61);
                call = "months(" + seed + ", " + times + ")";
                return new long[] {x.months(seed, times), m.months(seed, times)};
            case 10:
                int e = pick(400);
                call = "end(" + e + ")";
                return new long[] {x.end(e), m.end(e)};
            default:
                int f = dice.nextInt();
                call = "feed(" + f + ")";
                return new long[] {x.feed(f, ~f, f * 3, f >> 3, 7), m.feed(f, ~f, f * 3, f >> 3, 7)};
        }
    }

    /** Often what is so of some TRAIN. */
    private int tellable(int station) {
        if (dice.nextInt(4) == 0 || m.count(0) == 0) {
            return dice.nextInt(2) == 0 ? -1 : pick(100_000);
        }
        return m.cheapest(dice.nextInt(m.count(0)), m.count(1), station, -1);
    }

    private long[] stepWays() {
        int[] way = aWay();
        int t = way[0];
        int p = way[1];
        int q = way[2];
        int i = dice.nextInt(3) == 0 ? -1 : pick(dice.nextInt(3) == 0 ? 8 : 4);
        switch (dice.nextInt(11)) {
            case 0:
            case 1:
                call = "cheapest(" + t + ", " + p + ", " + q + ", " + i + ")";
                return new long[] {x.cheapest(t, p, q, i), m.cheapest(t, p, q, i)};
            case 2:
                call = "byAtMost(" + t + ", " + p + ", " + q + ", " + i + ")";
                return new long[] {x.byAtMost(t, p, q, i), m.byAtMost(t, p, q, i)};
            case 3:
                call = "fewest(" + t + ", " + p + ", " + q + ")";
                return new long[] {x.fewest(t, p, q), m.fewest(t, p, q)};
            case 4:
                call = "ways(" + t + ", " + p + ", " + q + ")";
                return new long[] {x.ways(t, p, q), m.ways(t, p, q)};
            case 5:
            case 6:
                int back = aTrain();
                for (int n = 0; n < 6 && dice.nextInt(12) > 0 && !m.goes(back, q, p); n++) {
                    back = dice.nextInt(6);
                }
                call = "thereAndBack(" + t + ", " + back + ", " + p + ", " + q + ")";
                return new long[] {x.thereAndBack(t, back, p, q), m.thereAndBack(t, back, p, q)};
            case 7:
                call = "saved(" + t + ", " + p + ", " + q + ")";
                return new long[] {x.saved(t, p, q), m.saved(t, p, q)};
            case 8:
                call = "bestTrain(" + p + ", " + q + ")";
                return new long[] {x.bestTrain(p, q), m.bestTrain(p, q)};
            case 9:
                int what = pick(3);
                call = "mostSaved(" + t + ", " + what + ")";
                return new long[] {x.mostSaved(t, what), m.mostSaved(t, what)};
            default:
                int[] ride = aRide();
                call = "used(" + ride[0] + ", " + ride[1] + ", " + i + ")";
                return new long[] {x.used(ride[0], ride[1], i), m.used(ride[0], ride[1], i)};
        }
    }

    private long[] stepAsk() {
        int[] leg = {pick(8), pick(8)};
        int what = pick(3);
        switch (dice.nextInt(10)) {
            case 0:
                call = "of";
                int t = pick(6);
                return new long[] {x.of(t, what), m.of(t, what)};
            case 1:
                call = "price(" + what + ", " + leg[0] + ", " + leg[1] + ")";
                return new long[] {x.price(what, leg[0], leg[1]), m.price(what, leg[0], leg[1])};
            case 2:
                int u = aTrain();
                call = "isBarred(" + u + ", " + what + ", " + leg[0] + ", " + leg[1] + ")";
                return new long[] {x.isBarred(u, what, leg[0], leg[1]), m.isBarred(u, what, leg[0], leg[1])};
            case 3:
                call = "held";
                return new long[] {x.held(what, leg[0], leg[1]), m.held(what, leg[0], leg[1])};
            case 4:
                call = "purseEnd()";
                return new long[] {x.purseEnd(), m.purseEnd()};
            case 5:
                call = "canBe()";
                return new long[] {x.canBe(), m.canBe()};
            case 6:
                call = "ask(" + what + ")";
                return new long[] {x.ask(what), m.ask(what)};
            case 7:
                int k = pick(21);
                int n = pick(100);
                call = "few(" + k + ", " + n + ")";
                return new long[] {x.few(k, n), m.few(k, n)};
            case 8:
                int law = pick(Math.max(1, m.count(5)));
                call = "compare(" + law + ", " + leg[0] + ", " + leg[1] + ")";
                return new long[] {x.compare(law, leg[0], leg[1]), m.compare(law, leg[0], leg[1])};
            default:
                int d = pick(4);
                call = "drawn(" + d + ")";
                return new long[] {x.drawn(d), m.drawn(d)};
        }
    }
}
