/** Promises 17 to 21, 31, 38 and 39: tickets bought, rides, pence, days, what is undone, MONTHS. */
public final class DeedPromisesTest {
    private static final Due D = new Due("DeedPromisesTest");

    public static void main(String[] args) {
        buy();
        ride();
        rideByFewest();
        rideBySeven();
        rideSorts();
        rideHalves();
        save();
        pass();
        undo();
        used();
        months();
        monthsLeaveAll();
        D.end();
    }

    private static void buy() {
        D.promise("17");
        SplitFares x = new SplitFares();
        int[][] bad = {{2, 0, 1}, {-1, 0, 1}, {0, 0, 0}, {0, 8, 1}, {0, -1, 1}, {1, 1, 8}, {1, 1, -1}};
        for (int[] b : bad) {
            D.due("buy", x.buy(b[0], b[1], b[2]), -1);
        }
        for (int n = 1; n <= 9; n++) {
            D.due("buy(0, 2, 4)", x.buy(0, 2, 4), 1000 - 20 * n);
        }
        D.due("a tenth", x.buy(0, 2, 4), -3);
        D.due("held(0, 2, 4)", x.held(0, 2, 4), 9);
        D.due("count(2)", x.count(2), 820);
        D.due("the way back", x.buy(0, 4, 2), 800);
        D.due("a return", x.buy(1, 2, 4), 770);
        Due.force(x, "costs 770 if return = 0; costs 771 if return = 1");
        D.due("more than is in the purse", x.buy(1, 0, 1), -3);
        D.due("count(6)", x.count(6), 11);
        D.due("as much as is in the purse", x.buy(0, 0, 1), 0);
        D.due("nothing in the purse", x.buy(0, 0, 1), -3);
        Due.force(x, "costs 0");
        D.due("for nothing", x.buy(1, 0, 1), 0);
        Due.force(x, "bars; costs 0");
        D.due("barred, but sold", x.buy(1, 0, 1), 0);
        D.due("held(1, 0, 1)", x.held(1, 0, 1), 2);
    }

    private static void ride() {
        D.promise("18");
        SplitFares x = new SplitFares();
        D.due("the STATION first", x.ride(0, 8), -1);
        D.due("ride(0, -1)", x.ride(0, -1), -1);
        D.due("ride(0, 1)", x.ride(0, 1), -2);
        x.train(Due.stops(0, 1, 3), 1, 8);
        x.train(Due.stops(0, 1, 3), 0, 8);
        D.due("ride(2, 1)", x.ride(2, 1), -2);
        D.due("ride(-1, 1)", x.ride(-1, 1), -2);
        D.due("ride(-1, 8)", x.ride(-1, 8), -1);
        D.due("without a ticket", x.ride(0, 1), -3);
        x.buy(0, 0, 1);
        x.buy(0, 0, 2);
        x.buy(0, 1, 3);
        D.due("to AT itself", x.ride(0, 0), -3);
        D.due("where it does not stop", x.ride(0, 2), -3);
        D.due("against its way", x.ride(1, 1), -3);
        D.due("ride(0, 3)", x.ride(0, 3), 2);
        D.due("count(1)", x.count(1), 3);
        D.due("count(3)", x.count(3), 1);
        D.due("held(0, 0, 1)", x.held(0, 0, 1), 0);
        D.due("held(0, 1, 3)", x.held(0, 1, 3), 0);
        D.due("count(2)", x.count(2), 950);
        Due.force(x, "bars if hour = 8 and far > 1 and return = 0");
        x.buy(0, 3, 0);
        x.buy(0, 3, 1);
        x.buy(0, 1, 0);
        D.due("barred", x.ride(1, 1), -3);
        D.due("barred", x.ride(1, 0), -3);
        x.train(Due.stops(0, 1, 3), 0, 9);
        D.due("another hour", x.ride(2, 0), 1);
        D.due("held(0, 3, 0)", x.held(0, 3, 0), 0);
    }

    /** The fewest TICKETS; of ways of as few that which has the sooner STATION where they part. */
    private static void rideByFewest() {
        D.promise("18");
        SplitFares x = new SplitFares();
        x.train(255, 1, 8);
        x.train(255, 0, 8);
        int[][] up = {{0, 1}, {1, 7}, {0, 4}, {4, 7}, {0, 2}, {2, 3}, {3, 7}, {0, 6}, {6, 7}};
        for (int[] leg : up) {
            x.buy(0, leg[0], leg[1]);
        }
        x.image(0);
        D.due("ride(0, 7)", x.ride(0, 7), 2);
        D.due("by 1", x.held(0, 0, 1) + x.held(0, 1, 7), 0);
        D.due("not by 4", x.held(0, 0, 4) + x.held(0, 4, 7), 2);
        x.back(0);
        x.buy(0, 0, 7);
        D.due("ride(0, 7)", x.ride(0, 7), 1);
        D.due("held(0, 0, 7)", x.held(0, 0, 7), 0);
        int[][] down = {{7, 1}, {1, 0}, {7, 5}, {5, 0}, {7, 3}, {3, 0}, {7, 6}, {6, 4}, {4, 0}};
        for (int[] leg : down) {
            x.buy(0, leg[0], leg[1]);
        }
        D.due("down", x.ride(1, 0), 2);
        D.due("by 5, which comes sooner", x.held(0, 7, 5) + x.held(0, 5, 0), 0);
        D.due("not by 1", x.held(0, 7, 1) + x.held(0, 1, 0), 2);
    }

    private static void rideBySeven() {
        D.promise("18, 31");
        SplitFares x = new SplitFares();
        x.train(255, 1, 8);
        for (int s = 0; s < 7; s++) {
            x.buy(0, s, s + 1);
        }
        D.due("used(0, 7, -1)", x.used(0, 7, -1), 7);
        D.due("used(0, 7, 6)", x.used(0, 7, 6), 7);
        D.due("used(0, 7, 7)", x.used(0, 7, 7), -1);
        D.due("ride(0, 7)", x.ride(0, 7), 7);
        D.due("count(3)", x.count(3), 0);
    }

    /** A SINGLE, else a HALF, else a RETURN, each if it is not BARRED. */
    private static void rideSorts() {
        D.promise("18");
        SplitFares x = new SplitFares();
        x.train(3, 1, 8);
        x.train(3, 0, 8);
        // a HALF from 1 to 0 comes of a RETURN from 0 to 1
        x.buy(1, 0, 1);
        x.ride(0, 1);
        x.buy(0, 1, 0);
        x.buy(1, 1, 0);
        x.image(0);
        D.due("ride", x.ride(1, 0), 1);
        D.due("a SINGLE", x.held(0, 1, 0), 0);
        D.due("the HALF is held", x.held(2, 1, 0), 1);
        x.back(0);
        Due.force(x, "bars if return = 0");
        x.image(0);
        D.due("ride", x.ride(1, 0), 1);
        D.due("the SINGLE is held", x.held(0, 1, 0), 1);
        D.due("a HALF", x.held(2, 1, 0), 0);
        D.due("the RETURN is held", x.held(1, 1, 0), 1);
        x.back(0);
        // a HALF is asked about as its RETURN, from 0 to 1
        Due.force(x, "bars if return = 0; bars if from = 0");
        D.due("ride", x.ride(1, 0), 1);
        D.due("the SINGLE is held", x.held(0, 1, 0), 1);
        D.due("the HALF is held", x.held(2, 1, 0), 1);
        D.due("a RETURN", x.held(1, 1, 0), 0);
        D.due("its HALF", x.held(2, 0, 1), 1);
        x.back(0);
        Due.force(x, "bars if return = 0; bars if from = 1");
        D.due("ride", x.ride(1, 0), 1);
        D.due("a HALF", x.held(2, 1, 0), 0);
        D.due("the RETURN is held", x.held(1, 1, 0), 1);
        x.back(0);
        Due.force(x, "bars");
        D.due("all barred", x.ride(1, 0), -3);
        Due.force(x, "bars if day = 4");
        x.terms(0, 4);
        D.due("on that day", x.ride(1, 0), -3);
        x.pass();
        D.due("on the next", x.ride(1, 0), 1);
    }

    private static void rideHalves() {
        D.promise("18");
        SplitFares x = new SplitFares();
        x.train(7, 1, 8);
        x.train(7, 0, 8);
        for (int n = 0; n < 9; n++) {
            x.buy(1, 0, 1);
        }
        for (int n = 1; n <= 9; n++) {
            x.buy(0, 1, 0);
            D.due("there", x.ride(0, 1), 1);
            D.due("held(2, 1, 0)", x.held(2, 1, 0), n);
            D.due("back by a SINGLE", x.ride(1, 0), 1);
        }
        x.buy(1, 0, 1);
        D.due("there", x.ride(0, 1), 1);
        D.due("nine HALVES at most", x.held(2, 1, 0), 9);
        D.due("held(1, 0, 1)", x.held(1, 0, 1), 0);
        D.due("undo()", x.undo(), 1);
        D.due("held(1, 0, 1)", x.held(1, 0, 1), 1);
        x.ride(0, 1);
        D.due("back by a HALF", x.ride(1, 0), 1);
        D.due("held(2, 1, 0)", x.held(2, 1, 0), 8);
        D.due("no HALF of a HALF", x.held(2, 0, 1), 0);
    }

    private static void save() {
        D.promise("19");
        SplitFares x = new SplitFares();
        D.due("save(0)", x.save(0), -1);
        D.due("save(-1)", x.save(-1), -1);
        D.due("save(10000)", x.save(10000), -1);
        D.due("save(1)", x.save(1), 1001);
        for (int n = 1; n <= 9; n++) {
            D.due("save(9999)", x.save(9999), 1001 + 9999 * n);
        }
        D.due("99,999 at most", x.save(9999), 99999);
        D.due("save(5)", x.save(5), 99999);
        D.due("undo()", x.undo(), 2);
        D.due("undo()", x.undo(), 2);
        D.due("count(2)", x.count(2), 90992);
    }

    private static void pass() {
        D.promise("20");
        SplitFares x = new SplitFares();
        x.train(7, 1, 8);
        D.due("pass()", x.pass(), 0);
        D.due("count(14)", x.count(14), 1);
        x.buy(1, 0, 1);
        x.buy(1, 1, 2);
        x.buy(0, 5, 6);
        x.ride(0, 2);
        D.due("count(3)", x.count(3), 3);
        D.due("pass()", x.pass(), 2);
        D.due("count(3)", x.count(3), 1);
        D.due("held(0, 5, 6)", x.held(0, 5, 6), 1);
        D.due("undo()", x.undo(), 3);
        D.due("held(2, 1, 0)", x.held(2, 1, 0), 1);
        D.due("held(2, 2, 1)", x.held(2, 2, 1), 1);
        D.due("count(14)", x.count(14), 1);
        x.terms(0, 998);
        D.due("pass()", x.pass(), 2);
        D.due("count(14)", x.count(14), 999);
        D.due("pass()", x.pass(), -3);
        D.due("count(14)", x.count(14), 999);
    }

    private static void undo() {
        D.promise("21");
        SplitFares x = new SplitFares();
        D.due("undo()", x.undo(), -3);
        x.train(3, 1, 8);
        x.buy(1, 0, 1);
        x.ride(0, 1);
        x.save(500);
        x.pass();
        x.buy(0, 9, 9);
        x.ride(0, 0);
        x.save(0);
        D.due("refused deeds are nothing to undo", x.count(6), 4);
        D.due("undo()", x.undo(), 3);
        D.due("count(14)", x.count(14), 0);
        D.due("held(2, 1, 0)", x.held(2, 1, 0), 1);
        D.due("undo()", x.undo(), 2);
        D.due("count(2)", x.count(2), 985);
        D.due("undo()", x.undo(), 1);
        D.due("count(1)", x.count(1), 0);
        D.due("held(1, 0, 1)", x.held(1, 0, 1), 1);
        D.due("held(2, 1, 0)", x.held(2, 1, 0), 0);
        D.due("undo()", x.undo(), 0);
        D.due("held(1, 0, 1)", x.held(1, 0, 1), 0);
        D.due("count(2)", x.count(2), 1000);
        D.due("undo()", x.undo(), -3);
        for (int n = 1; n <= 20; n++) {
            x.save(n);
        }
        D.due("count(6)", x.count(6), 16);
        for (int n = 20; n > 4; n--) {
            D.due("undo()", x.undo(), 2);
            D.due("count(2)", x.count(2), 1000 + n * (n - 1) / 2);
        }
        D.due("undo()", x.undo(), -3);
        x.save(1);
        x.image(0);
        x.back(1);
        D.due("a refused back() leaves what can be undone", x.count(6), 1);
        x.back(0);
        D.due("undo() behind back()", x.undo(), -3);
        x.save(1);
        x.terms(1, 5);
        D.due("undo() behind terms()", x.undo(), -3);
        x.save(1);
        D.due("undo()", x.undo(), 2);
        D.due("count(10)", x.count(10), 6);
    }

    private static void used() {
        D.promise("31");
        SplitFares x = new SplitFares();
        D.due("used(0, 1, -1)", x.used(0, 1, -1), -1);
        x.train(255, 1, 8);
        x.train(255, 0, 8);
        x.buy(0, 0, 2);
        x.buy(1, 2, 3);
        x.buy(0, 3, 7);
        D.due("used(0, 7, -1)", x.used(0, 7, -1), 3);
        D.due("used(0, 7, 0)", x.used(0, 7, 0), 2);
        D.due("used(0, 7, 1)", x.used(0, 7, 1), 3);
        D.due("used(0, 7, 2)", x.used(0, 7, 2), 7);
        D.due("used(0, 7, 3)", x.used(0, 7, 3), -1);
        D.due("used(0, 7, -2)", x.used(0, 7, -2), -1);
        D.due("used(0, 3, -1)", x.used(0, 3, -1), 2);
        D.due("used(0, 6, -1)", x.used(0, 6, -1), -1);
        D.due("used(0, 0, -1)", x.used(0, 0, -1), -1);
        D.due("used(0, 8, -1)", x.used(0, 8, -1), -1);
        D.due("used(0, -1, -1)", x.used(0, -1, -1), -1);
        D.due("used(1, 2, -1)", x.used(1, 2, -1), -1);
        D.due("used(2, 2, -1)", x.used(2, 2, -1), -1);
        D.due("used(-1, 2, -1)", x.used(-1, 2, -1), -1);
        D.due("nothing is used", x.count(3), 3);
        x.buy(0, 0, 1);
        x.buy(0, 1, 7);
        D.due("used(0, 7, -1)", x.used(0, 7, -1), 2);
        D.due("used(0, 7, 0)", x.used(0, 7, 0), 1);
        Due.force(x, "bars if far = 6");
        D.due("used(0, 7, -1)", x.used(0, 7, -1), 3);
        D.due("status()", x.status(), 0);
    }

    private static void months() {
        D.promise("38, 39");
        SplitFares x = new SplitFares();
        D.due("months(0, 1)", x.months(0, 1), -3);
        D.due("months(-1, 1)", x.months(-1, 1), -1);
        D.due("months(1000001, 1)", x.months(1000001, 1), -1);
        D.due("months(0, 0)", x.months(0, 0), -1);
        D.due("months(0, 61)", x.months(0, 61), -1);
        D.due("drawn(0)", x.drawn(0), -1);
        x.train(255, 1, 8);
        x.train(255, 0, 8);
        // 12345, 628841, 621889: the second TRAIN, STATION 1, a RETURN from 0 to 1
        D.due("months(0, 1)", x.months(0, 1), 0);
        D.due("drawn(0)", x.drawn(0), 985);
        D.due("drawn(1)", x.drawn(1), 0);
        D.due("drawn(2)", x.drawn(2), 1);
        D.due("drawn(3)", x.drawn(3), 0);
        D.due("drawn(4)", x.drawn(4), -1);
        D.due("drawn(-1)", x.drawn(-1), -1);
        D.due("months(-1, 1)", x.months(-1, 1), -1);
        D.due("a refused one leaves them", x.drawn(0), 985);
        Model m = new Model();
        m.train(255, 1, 8);
        m.train(255, 0, 8);
        for (int p = 0; p < 8; p++) {
            for (int q = 0; q < 8; q++) {
                x.buy(0, p, q);
                m.buy(0, p, q);
            }
        }
        for (int seed = 0; seed <= 1_000_000; seed += 125_000) {
            int due = m.months(seed, 60);
            D.due("months(" + seed + ", 60)", x.months(seed, 60), due);
            for (int what = 0; what < 4; what++) {
                D.due("drawn(" + what + ")", x.drawn(what), m.drawn(what));
            }
        }
        SplitFares y = new SplitFares();
        y.train(3, 1, 8);
        D.due("months by one TRAIN", y.months(0, 1), 0);
        D.due("drawn(0)", y.drawn(0), 985);
        x.terms(0, 999);
        D.due("months on the last DAY", x.months(5, 60), 0);
        D.due("drawn(0)", x.drawn(0), x.count(2));
        D.due("drawn(2)", x.drawn(2), x.count(3));
        D.due("drawn(3)", x.drawn(3), 999);
        x.terms(0, 998);
        x.months(5, 60);
        D.due("they end with the last DAY", x.drawn(3), 999);
    }

    private static void monthsLeaveAll() {
        D.promise("38");
        SplitFares x = new SplitFares();
        x.train(255, 1, 8);
        x.train(255, 0, 8);
        x.buy(0, 0, 3);
        x.ride(0, 3);
        x.buy(1, 3, 1);
        x.save(5);
        int[] before = new int[17];
        for (int what = 0; what < 17; what++) {
            before[what] = x.count(what);
        }
        x.months(123, 60);
        for (int what = 0; what < 17; what++) {
            D.due("count(" + what + ")", x.count(what), before[what]);
        }
        D.due("held(1, 3, 1)", x.held(1, 3, 1), 1);
        D.due("undo()", x.undo(), 2);
        D.due("undo()", x.undo(), 0);
        D.due("undo()", x.undo(), 1);
        D.due("undo()", x.undo(), 0);
        D.due("count(2)", x.count(2), 1000);
    }
}
