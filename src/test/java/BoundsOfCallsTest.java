/**
 * Bounds of what calls are given: the last value that is good, the first one that is not, on both sides;
 * numbers far beyond, and such as come round to a good one (bit 31, 256, 64, 8 more).
 */
public final class BoundsOfCallsTest {
    private static final Due D = new Due("BoundsOfCallsTest");
    private static final int LEAST = Integer.MIN_VALUE;
    private static final int MOST = Integer.MAX_VALUE;
    private static final int[] NO_STATIONS = {LEAST, LEAST + 3, -65, -64, -8, -1, 8, 9, 11, 15, 63, 64, 67, 256, 259, 65_536, MOST};

    private interface Leg {
        long on(SplitFares x, int from, int to);
    }

    private interface Given {
        long on(SplitFares x, int n);
    }

    public static void main(String[] args) {
        stationsOfPrices();
        stationsOfWays();
        oneStationAlone();
        stationsAlone();
        trains();
        trainsOfWays();
        sorts();
        questions();
        numbersOfTrain();
        numbersOfTerms();
        numbersOfSaveAndTold();
        numbersOfFewAndMonths();
        images();
        D.end();
    }

    // ---- I. STATIONS 0 .. 7

    private static int up(int from, int to) {
        return from < to ? 0 : 1;
    }

    /** What is due from 0 to 7, from 7 to 0; with any STATION that there is not, NONE or -1. */
    private static void stations(String name, Leg leg, int dueUp, int dueDown) {
        D.due(name + " from 0 to 7", leg.on(Offices.line(), 0, 7), dueUp);
        D.due(name + " from 7 to 0", leg.on(Offices.line(), 7, 0), dueDown);
        SplitFares x = Offices.line();
        for (int no : NO_STATIONS) {
            D.due(name + " from " + no + " to 3", leg.on(x, no, 3), -1);
            D.due(name + " from 3 to " + no, leg.on(x, 3, no), -1);
            D.due(name + " from and to " + no, leg.on(x, no, no), -1);
            D.due(name + " from " + no + " to " + (no + 1), leg.on(x, no, no + 1), -1);
        }
    }

    private static void stationsOfPrices() {
        D.promise("I, 4, 5, 6, 17, 37: STATIONS 0 .. 7");
        stations("price of a SINGLE", (x, p, q) -> x.price(0, p, q), 70, 70);
        stations("price of a RETURN", (x, p, q) -> x.price(1, p, q), 105, 105);
        stations("isBarred of a SINGLE", (x, p, q) -> x.isBarred(0, 0, p, q), 0, 0);
        stations("isBarred of a RETURN", (x, p, q) -> x.isBarred(1, 1, p, q), 0, 0);
        stations("held SINGLES", (x, p, q) -> x.held(0, p, q), 0, 0);
        stations("held RETURNS", (x, p, q) -> x.held(1, p, q), 0, 0);
        stations("held HALVES", (x, p, q) -> x.held(2, p, q), 0, 0);
        stations("buy a SINGLE", (x, p, q) -> x.buy(0, p, q), 930, 930);
        stations("buy a RETURN", (x, p, q) -> x.buy(1, p, q), 895, 895);
        stations("compare", (x, p, q) -> x.compare(-1, p, q), 70, 70);
    }

    private static void stationsOfWays() {
        D.promise("I, 22 to 28: STATIONS 0 .. 7");
        stations("cheapest", (x, p, q) -> x.cheapest(up(p, q), p, q, -1), 70, 70);
        stations("cheapest, the first", (x, p, q) -> x.cheapest(up(p, q), p, q, 0), 1, 6);
        stations("cheapest, the seventh", (x, p, q) -> x.cheapest(up(p, q), p, q, 6), 7, 0);
        stations("byAtMost 1", (x, p, q) -> x.byAtMost(up(p, q), p, q, 1), 70, 70);
        stations("byAtMost 7", (x, p, q) -> x.byAtMost(up(p, q), p, q, 7), 70, 70);
        stations("fewest", (x, p, q) -> x.fewest(up(p, q), p, q), 1, 1);
        stations("ways", (x, p, q) -> x.ways(up(p, q), p, q), 64, 64);
        stations("thereAndBack", (x, p, q) -> x.thereAndBack(up(p, q), 1 - up(p, q), p, q), 105, 105);
        stations("saved", (x, p, q) -> x.saved(up(p, q), p, q), 0, 0);
        stations("bestTrain", (x, p, q) -> x.bestTrain(p, q), 0, 1);
    }

    private static void oneStationAlone() {
        D.promise("4 to 6, 17, 22 to 28, 37: one STATION alone");
        for (int s = 0; s < 8; s++) {
            SplitFares x = Offices.line();
            for (int sort = 0; sort < 3; sort++) {
                D.due("price", x.price(sort, s, s), -1);
                D.due("isBarred", x.isBarred(0, sort, s, s), -1);
                D.due("held", x.held(sort, s, s), -1);
                D.due("buy", x.buy(sort, s, s), -1);
            }
            for (int t = 0; t < 2; t++) {
                D.due("cheapest", x.cheapest(t, s, s, -1), -1);
                D.due("cheapest, the first", x.cheapest(t, s, s, 0), -1);
                D.due("byAtMost", x.byAtMost(t, s, s, 7), -1);
                D.due("fewest", x.fewest(t, s, s), -1);
                D.due("ways", x.ways(t, s, s), -1);
                D.due("thereAndBack", x.thereAndBack(t, 1 - t, s, s), -1);
                D.due("saved", x.saved(t, s, s), -1);
            }
            D.due("bestTrain", x.bestTrain(s, s), -1);
            D.due("compare", x.compare(-1, s, s), -1);
            D.due("count(8)", x.count(8), 3);
        }
    }

    private static void stationsAlone() {
        D.promise("I, 18, 31, 32: STATIONS 0 .. 7");
        SplitFares x = Offices.line();
        x.buy(0, 0, 7);
        for (int no : NO_STATIONS) {
            D.due("ride to " + no, x.ride(0, no), -1);
            D.due("used to " + no, x.used(0, no, -1), -1);
            D.due("told of " + no, x.told(no, 0), -1);
        }
        D.due("count(8)", x.count(8), 2 * NO_STATIONS.length);
        D.due("told of 0", x.told(0, 0), 1);
        D.due("told of 7", x.told(7, 0), 2);
        D.due("used to 7", x.used(0, 7, -1), 1);
        D.due("ride to 7", x.ride(0, 7), 1);
        x.buy(0, 7, 0);
        D.due("used to 0", x.used(1, 0, -1), 1);
        D.due("ride to 0", x.ride(1, 0), 1);
    }

    // ---- I. TRAINS 0 .. 5, as many as there are

    /** Of each number of TRAINS there can be: the first and the last one are, the next one is not. */
    private static void eachTrain(String name, Given given, int none) {
        for (int n = 0; n <= 6; n++) {
            SplitFares x = withTicket(n);
            int[] no = {n, n + 1, n + 8, n + 256, 6, 7, -1, -2, LEAST, LEAST + n, MOST};
            for (int t : no) {
                D.due(name + " of TRAIN " + t + " of " + n, given.on(x, t), none);
            }
            if (n > 0) {
                D.due(name + " of TRAIN 0 of " + n + " is told", given.on(withTicket(n), 0) >= 0 ? 1 : 0, 1);
                D.due(name + " of TRAIN " + (n - 1) + " of " + n + " is told", given.on(withTicket(n), n - 1) >= 0 ? 1 : 0, 1);
            }
        }
    }

    private static SplitFares withTicket(int trains) {
        SplitFares x = Offices.trains(trains);
        x.buy(0, 0, 7);
        return x;
    }

    private static void trains() {
        D.promise("I, 3, 5, 18, 31: TRAINS 0 .. 5");
        eachTrain("of STOPS", (x, t) -> x.of(t, 0), -1);
        eachTrain("of UP", (x, t) -> x.of(t, 1), -1);
        eachTrain("of HOUR", (x, t) -> x.of(t, 2), -1);
        eachTrain("isBarred", (x, t) -> x.isBarred(t, 0, 0, 7), -1);
        eachTrain("used", (x, t) -> x.used(t, 7, -1), -1);
        eachTrain("ride", (x, t) -> x.ride(t, 7), -2);
        D.promise("18: there is no such TRAIN, even to AT itself");
        D.due("ride(0, 0)", Offices.trains(0).ride(0, 0), -2);
        D.due("ride(6, 0)", Offices.trains(6).ride(6, 0), -2);
    }

    private static void trainsOfWays() {
        D.promise("I, 22 to 29: TRAINS 0 .. 5");
        eachTrain("cheapest", (x, t) -> x.cheapest(t, 0, 7, -1), -1);
        eachTrain("cheapest, the first", (x, t) -> x.cheapest(t, 0, 7, 0), -1);
        eachTrain("byAtMost", (x, t) -> x.byAtMost(t, 0, 7, 1), -1);
        eachTrain("fewest", (x, t) -> x.fewest(t, 0, 7), -1);
        eachTrain("ways", (x, t) -> x.ways(t, 0, 7), -1);
        eachTrain("saved", (x, t) -> x.saved(t, 0, 7), -1);
        eachTrain("mostSaved", (x, t) -> x.mostSaved(t, 0), -1);
        eachTrain("mostSaved from", (x, t) -> x.mostSaved(t, 1), -1);
        eachTrain("mostSaved to", (x, t) -> x.mostSaved(t, 2), -1);
        D.promise("26: both TRAINS");
        SplitFares x = Offices.line();
        D.due("out 0, back 1", x.thereAndBack(0, 1, 0, 7), 105);
        D.due("out 1, back 0", x.thereAndBack(1, 0, 7, 0), 105);
        int[] no = {2, 3, 6, 8, 256, 257, -1, -7, LEAST, LEAST + 1, MOST};
        for (int t : no) {
            D.due("out " + t, x.thereAndBack(t, 1, 0, 7), -1);
            D.due("back " + t, x.thereAndBack(0, t, 0, 7), -1);
            D.due("both " + t, x.thereAndBack(t, t, 0, 7), -1);
        }
        D.due("no TRAIN", new SplitFares().thereAndBack(0, 1, 0, 7), -1);
        D.promise("28: six TRAINS, none");
        D.due("none", new SplitFares().bestTrain(0, 7), -1);
        D.due("of six alike the lowest", Offices.trains(6).bestTrain(0, 7), 0);
        SplitFares y = new SplitFares();
        for (int t = 0; t < 5; t++) {
            y.train(255, 0, t);
        }
        y.train(255, 1, 5);
        D.due("the sixth", y.bestTrain(0, 7), 5);
        D.due("the first of the others", y.bestTrain(7, 0), 0);
    }

    // ---- sorts of TICKETS

    private static void sorts() {
        D.promise("4, 5, 17: sort 0, 1; 6: sort 0 .. 2");
        int[] no = {LEAST, LEAST + 1, -2, -1, 2, 3, 4, 64, 256, 257, MOST};
        SplitFares x = Offices.line();
        x.save(1);
        for (int sort : no) {
            D.due("price of " + sort, x.price(sort, 0, 7), -1);
            D.due("isBarred of " + sort, x.isBarred(0, sort, 0, 7), -1);
            D.due("buy " + sort, x.buy(sort, 0, 7), -1);
            if (sort != 2) {
                D.due("held " + sort, x.held(sort, 0, 7), -1);
            }
        }
        D.due("count(8)", x.count(8), no.length);
        D.due("count(3)", x.count(3), 0);
        D.due("price of 0", x.price(0, 0, 7), 70);
        D.due("price of 1", x.price(1, 0, 7), 105);
        D.due("isBarred of 0", x.isBarred(0, 0, 0, 7), 0);
        D.due("isBarred of 1", x.isBarred(0, 1, 0, 7), 0);
        D.due("buy 0", x.buy(0, 0, 7), 931);
        D.due("buy 1", x.buy(1, 0, 7), 826);
        D.due("held 0", x.held(0, 0, 7), 1);
        D.due("held 1", x.held(1, 0, 7), 1);
        D.due("held 2", x.held(2, 7, 0), 0);
    }

    // ---- what is asked, the i-th, at most k

    private static void onlyFrom(String name, Given given, int lowest, int highest, int... due) {
        SplitFares x = Offices.lively();
        int[] far = {LEAST, LEAST + lowest, lowest - 256, lowest - 8, lowest - 2, highest + 2, highest + 8, highest + 256, MOST};
        for (int n : far) {
            D.due(name + " " + n, given.on(x, n), -1);
        }
        D.due(name + " " + (lowest - 1), given.on(x, lowest - 1), -1);
        D.due(name + " " + (highest + 1), given.on(x, highest + 1), -1);
        for (int n = lowest; n <= highest; n++) {
            D.due(name + " " + n, given.on(x, n), due[n - lowest]);
        }
    }

    private static void questions() {
        D.promise("3: what 0, 1, 2");
        onlyFrom("of TRAIN 1", (x, what) -> x.of(1, what), 0, 2, 255, 0, 17);
        D.promise("29: what 0, 1, 2");
        SplitFares line = Offices.line("costs far * far");
        D.due("mostSaved 0", line.mostSaved(1, 0), 42);
        D.due("mostSaved 1", line.mostSaved(1, 1), 7);
        D.due("mostSaved 2", line.mostSaved(1, 2), 0);
        D.due("mostSaved 3", line.mostSaved(1, 3), -1);
        D.due("mostSaved -1", line.mostSaved(1, -1), -1);
        D.due("mostSaved MOST", line.mostSaved(1, MOST), -1);
        D.due("mostSaved LEAST", line.mostSaved(1, LEAST), -1);
        D.promise("35: what 0, 1");
        onlyFrom("ask", (x, what) -> x.ask(what), 0, 1, 0, 1);
        D.promise("22: the i-th SINGLE, NONE");
        onlyFrom("cheapest of TRAIN 0 from 0 to 7", (x, i) -> x.cheapest(0, 0, 7, i), -1, 1, 33, 3, 7);
        onlyFrom("cheapest by one alone", (x, i) -> x.cheapest(0, 1, 3, i), -1, 0, 8, 3);
        onlyFrom("cheapest without a WAY", (x, i) -> x.cheapest(0, 3, 1, i), -1, -1, -1);
        D.promise("31: the i-th TICKET, NONE");
        onlyFrom("used", (x, i) -> x.used(0, 7, i), -1, 0, 1, 7);
        onlyFrom("used without TICKETS", (x, i) -> x.used(2, 5, i), -1, -1, -1);
        D.promise("23: BY k 1 .. 7");
        SplitFares y = Offices.line("costs far * far");
        int[] due = {49, 25, 17, 13, 11, 9, 7};
        for (int k = 1; k <= 7; k++) {
            D.due("byAtMost " + k, y.byAtMost(0, 0, 7, k), due[k - 1]);
        }
        int[] no = {LEAST, LEAST + 1, -7, -1, 0, 8, 9, 257, MOST};
        for (int k : no) {
            D.due("byAtMost " + k, y.byAtMost(0, 0, 7, k), -1);
        }
        D.promise("39: what 0 .. 3");
        SplitFares z = Offices.trains(1);
        for (int what = -1; what <= 4; what++) {
            D.due("drawn(" + what + ") ahead of any", z.drawn(what), -1);
        }
        z.months(0, 1);
        int[] drawn = {-1, 985, 0, 1, 0, -1};
        for (int what = -1; what <= 4; what++) {
            D.due("drawn(" + what + ")", z.drawn(what), drawn[what + 1]);
        }
        D.due("drawn(LEAST)", z.drawn(LEAST), -1);
        D.due("drawn(MOST)", z.drawn(MOST), -1);
        D.promise("42: 0 .. 16");
        onlyFrom("count", (x, what) -> x.count(what), 0, 16, 3, 3, 1016, 4, 2, 2, 6, 19, 1, 1, 1, 0, 1, 1, 5, 3, 4);
    }

    // ---- numbers of calls that are REFUSED by -1

    private static void numbersOfTrain() {
        D.promise("2: STOPS 0 .. 255, two at least");
        for (int stops = 0; stops < 256; stops++) {
            SplitFares x = new SplitFares();
            boolean good = Integer.bitCount(stops) > 1;
            D.due("train of " + stops, x.train(stops, 1, 0), good ? 0 : -1);
            D.due("of", x.of(0, 0), good ? stops : -1);
            D.due("count(8)", x.count(8), good ? 0 : 1);
        }
        int[] no = {LEAST, LEAST + 3, -256, -253, -1, 256, 257, 259, 511, 65_539, MOST};
        SplitFares x = new SplitFares();
        for (int stops : no) {
            D.due("train of " + stops, x.train(stops, 1, 0), -1);
        }
        D.promise("2: UP 1, DOWN 0");
        int[] noWay = {LEAST, LEAST + 1, -255, -2, -1, 2, 3, 256, 257, MOST};
        for (int up : noWay) {
            D.due("train UP " + up, x.train(3, up, 0), -1);
        }
        D.promise("2: HOUR 0 .. 23");
        int[] noHour = {LEAST, LEAST + 23, -24, -1, 24, 25, 47, 256, 279, MOST};
        for (int hour : noHour) {
            D.due("train at " + hour, x.train(3, 1, hour), -1);
        }
        D.due("count(8)", x.count(8), no.length + noWay.length + noHour.length);
        D.due("count(0)", x.count(0), 0);
        D.due("train DOWN at 0", x.train(3, 0, 0), 0);
        D.due("train UP at 23", x.train(192, 1, 23), 1);
        D.due("DOWN", x.of(0, 1), 0);
        D.due("at 0", x.of(0, 2), 0);
        D.due("UP", x.of(1, 1), 1);
        D.due("at 23", x.of(1, 2), 23);
        D.promise("2: 6 TRAINS at most");
        for (int n = 2; n < 6; n++) {
            D.due("train " + n, x.train(255, n % 2, n), n);
        }
        D.due("a seventh", x.train(255, 1, 6), -5);
        D.due("a seventh that can't be: -1 ahead of -5", x.train(256, 1, 6), -1);
        D.due("an eighth", x.train(255, 1, 6), -5);
        D.due("count(0)", x.count(0), 6);
        D.due("count(11)", x.count(11), 2);
    }

    private static void numbersOfTerms() {
        D.promise("7: DAY 0 .. 999, CHECKS 0 .. 10, MOOD 0 .. 9");
        int[] highest = {999, 10, 9};
        int[] first = {0, 1, 0};
        for (int what = 0; what < 3; what++) {
            SplitFares x = new SplitFares();
            D.due("the term at first", x.count(14 + what), first[what]);
            int[] no = {LEAST, LEAST + 1, -1000, -1, highest[what] + 1, highest[what] + 2, highest[what] + 256, 65_536, MOST};
            for (int value : no) {
                D.due("terms(" + what + ", " + value + ")", x.terms(what, value), -1);
            }
            D.due("as it was", x.count(14 + what), first[what]);
            D.due("count(8)", x.count(8), no.length);
            int was = first[what];
            for (int value = 0; value <= highest[what]; value += what == 0 && value < 998 ? 37 : 1) {
                D.due("terms(" + what + ", " + value + ")", x.terms(what, value), was);
                was = value;
            }
            D.due("the highest", x.count(14 + what), highest[what]);
            D.due("the lowest", x.terms(what, 0), highest[what]);
            D.due("the lowest", x.count(14 + what), 0);
            for (int other = 0; other < 3; other++) {
                D.due("another TERM", x.count(14 + other), other == what ? 0 : first[other]);
            }
        }
        SplitFares x = new SplitFares();
        int[] no = {LEAST, LEAST + 1, -2, -1, 3, 4, 16, 256, MOST};
        for (int what : no) {
            D.due("terms(" + what + ", 0)", x.terms(what, 0), -1);
        }
        D.due("count(8)", x.count(8), no.length);
    }

    private static void numbersOfSaveAndTold() {
        D.promise("19: PURSE is more by 1 .. 9,999");
        SplitFares x = new SplitFares();
        int[] no = {LEAST, LEAST + 1, -9999, -1, 0, 10_000, 10_001, 65_537, MOST};
        for (int pence : no) {
            D.due("save(" + pence + ")", x.save(pence), -1);
        }
        D.due("count(2)", x.count(2), 1000);
        D.due("count(8)", x.count(8), no.length);
        D.due("save(1)", x.save(1), 1001);
        D.due("save(9999)", x.save(9999), 11_000);
        D.promise("32: n -1, 0 .. 99,999");
        int[] noCost = {LEAST, LEAST + 1, -100_000, -3, -2, 100_000, 100_001, 131_072, MOST};
        for (int n : noCost) {
            D.due("told(0, " + n + ")", x.told(0, n), -1);
        }
        D.due("count(4)", x.count(4), 0);
        D.due("count(8)", x.count(8), no.length + noCost.length);
        D.due("told(0, -1)", x.told(0, -1), 1);
        D.due("told(7, 0)", x.told(7, 0), 2);
        D.due("told(7, 99999)", x.told(7, 99_999), 3);
        D.promise("32: TOLD, 6 at most");
        D.due("the fourth", x.told(1, 1), 4);
        D.due("the fifth, the same", x.told(1, 1), 5);
        D.due("the sixth", x.told(1, 1), 6);
        D.due("a seventh", x.told(1, 1), -5);
        D.due("a seventh that can't be: -1 ahead of -5", x.told(8, 1), -1);
        D.due("count(4)", x.count(4), 6);
        D.due("forget(), full", x.forget(), 6);
        D.due("forget(), empty", x.forget(), 0);
        D.due("the first again", x.told(1, 1), 1);
    }

    private static void numbersOfFewAndMonths() {
        D.promise("36: k 1 .. 20, n 0 .. 99");
        SplitFares x = Offices.trains(1);
        int[] noK = {LEAST, LEAST + 1, -20, -1, 0, 21, 22, 257, MOST};
        for (int k : noK) {
            D.due("few(" + k + ", 1)", x.few(k, 1), -1);
        }
        int[] noN = {LEAST, LEAST + 1, -99, -1, 100, 101, 256, MOST};
        for (int n : noN) {
            D.due("few(1, " + n + ")", x.few(1, n), -1);
        }
        D.due("few(1, 0)", x.few(1, 0), 1_000_000_000_000L);
        D.due("few(20, 0)", x.few(20, 0), 1_000_000_000_000L);
        D.promise("38: SEED 0 .. 1,000,000, n 1 .. 60");
        int[] noSeed = {LEAST, LEAST + 1, -1, 1_000_001, 1_000_003, MOST};
        for (int seed : noSeed) {
            D.due("months(" + seed + ", 1)", x.months(seed, 1), -1);
        }
        int[] noMonths = {LEAST, LEAST + 1, -60, -1, 0, 61, 62, 257, MOST};
        for (int n : noMonths) {
            D.due("months(0, " + n + ")", x.months(0, n), -1);
        }
        D.due("drawn(0)", x.drawn(0), -1);
        D.due("count(8)", x.count(8), noSeed.length + noMonths.length);
        D.promise("38: -1 ahead of -3");
        D.due("months(-1, 1) without TRAINS", new SplitFares().months(-1, 1), -1);
        D.due("months(0, 61) without TRAINS", new SplitFares().months(0, 61), -1);
        D.due("months(0, 1) without TRAINS", new SplitFares().months(0, 1), -3);
        D.due("months(1000000, 60) without TRAINS", new SplitFares().months(1_000_000, 60), -3);
    }

    private static void images() {
        D.promise("40, 41: IMAGES 0, 1");
        int[] no = {LEAST, LEAST + 1, -2, -1, 2, 3, 256, 257, MOST};
        SplitFares x = new SplitFares();
        for (int k : no) {
            D.due("image(" + k + ")", x.image(k), -1);
            D.due("back(" + k + "): -1 ahead of -2", x.back(k), -1);
        }
        D.due("back(0)", x.back(0), -2);
        D.due("back(1)", x.back(1), -2);
        D.due("image(1)", x.image(1), 0);
        D.due("back(0)", x.back(0), -2);
        D.due("back(1)", x.back(1), 0);
        D.due("image(0)", x.image(0), 0);
        D.due("back(0)", x.back(0), 0);
        D.due("count(8)", x.count(8), 2 * no.length);
        D.due("count(9)", x.count(9), 3);
    }
}
