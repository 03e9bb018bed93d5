/** Bounds that Terms I, III and IV name of what stands and of what is done: empty, full, the last and the first beyond. */
public final class BoundsOfTermsTest {
    private static final Due D = new Due("BoundsOfTermsTest");
    private static final long WHOLE = 1_000_000_000_000L;

    public static void main(String[] args) {
        atFirst();
        stops();
        goes();
        purseToNothing();
        purseToTheBrim();
        nineOfEach();
        nineOfAll();
        nineHalves();
        toAtItself();
        usedUp();
        rideAll();
        days();
        undoRing();
        undoneByOrders();
        nothingToUndo();
        leavesWhatCanBeUndone();
        ofSoManyAtMost();
        forNothing();
        firstByItsStations();
        thereAndBack();
        thereAndBackForNothing();
        thereAndBackBySeven();
        saved();
        mostSaved();
        purseEnd();
        told();
        ask();
        askAlike();
        askWhoIsAlike();
        few();
        monthsBySeed();
        monthsByDay();
        monthsAsIfBought();
        monthsByLaw();
        rows();
        rowsWithoutRoom();
        images();
        imagesOfAll();
        imagesOfTold();
        countsOfRefusals();
        status();
        statusOfMore();
        D.end();
    }

    private static void counts(SplitFares x, int... due) {
        for (int what = 0; what < due.length; what++) {
            D.due("count(" + what + ")", x.count(what), due[what]);
        }
    }

    // ---- I

    private static void atFirst() {
        D.promise("I, 1: at first");
        SplitFares x = new SplitFares();
        counts(x, 0, 0, 1000, 0, 0, 0, 0, 0, 0, 0, 0, 0, 0, -1, 0, 1, 0);
        D.due("status()", x.status(), 0);
        D.due("fault()", x.fault(), -1);
        D.due("stopped()", x.stopped(), -1);
        D.due("delays()", x.delays(), 0);
        D.due("canBe()", x.canBe(), 0);
        D.due("ask(0)", x.ask(0), -1);
        D.due("ask(1)", x.ask(1), -1);
        D.due("purseEnd()", x.purseEnd(), 1);
        D.due("forget()", x.forget(), 0);
        D.due("end(0)", x.end(0), 0);
        D.due("another object", Offices.full().count(0) + new SplitFares().count(0), 6);
    }

    private static void stops() {
        D.promise("I: a TRAIN STOPS at two STATIONS, at all eight");
        SplitFares x = new SplitFares();
        x.train(Due.stops(0, 7), 1, 0);
        x.train(Due.stops(0, 7), 0, 23);
        x.train(255, 1, 0);
        D.due("from the first to the last", x.cheapest(0, 0, 7, -1), 70);
        D.due("and back", x.cheapest(1, 7, 0, -1), 70);
        D.due("one WAY", x.ways(0, 0, 7), 1);
        D.due("64 WAYS", x.ways(2, 0, 7), 64);
        D.due("between them it does not STOP", x.ways(0, 0, 6) + x.ways(0, 1, 7) + x.ways(1, 7, 1), 0);
        D.due("no WAY", x.fewest(0, 1, 6), -1);
    }

    private static void goes() {
        D.promise("III: UP from a lower STATION alone, DOWN from a higher one alone");
        SplitFares x = Offices.line();
        for (int p = 0; p < 8; p++) {
            for (int q = 0; q < 8; q++) {
                if (p != q) {
                    int far = Math.abs(p - q);
                    D.due("ways(0, " + p + ", " + q + ")", x.ways(0, p, q), p < q ? 1 << far - 1 : 0);
                    D.due("ways(1, " + p + ", " + q + ")", x.ways(1, p, q), p > q ? 1 << far - 1 : 0);
                    D.due("fewest(0, " + p + ", " + q + ")", x.fewest(0, p, q), p < q ? 1 : -1);
                    D.due("cheapest(1, " + p + ", " + q + ", -1)", x.cheapest(1, p, q, -1), p > q ? 10 * far : -1);
                }
            }
        }
    }

    private static void purseToNothing() {
        D.promise("I, III, 17: PURSE 0 at least");
        SplitFares x = Offices.line("costs 1000; costs 1 if to = 7; costs 0 if to = 6");
        D.due("all that is in it", x.buy(0, 0, 1), 0);
        D.due("a penny more than nothing", x.buy(0, 0, 7), -3);
        D.due("count(2)", x.count(2), 0);
        D.due("nothing of nothing", x.buy(0, 0, 6), 0);
        D.due("nothing of nothing, a RETURN", x.buy(1, 0, 6), 0);
        x.save(1);
        D.due("a penny of a penny", x.buy(1, 0, 7), 0);
        x.save(999);
        D.due("a penny too few", x.buy(0, 0, 1), -3);
        D.due("count(2)", x.count(2), 999);
        x.save(1);
        D.due("just enough", x.buy(0, 0, 1), 0);
        D.due("count(3)", x.count(3), 5);
        D.due("count(10)", x.count(10), 2);
    }

    private static void purseToTheBrim() {
        D.promise("I, III, 19: PURSE 99,999 at most");
        SplitFares x = new SplitFares();
        for (int n = 1; n <= 9; n++) {
            D.due("save(9999)", x.save(9999), 1000 + 9999 * n);
        }
        D.due("a penny below it", x.save(99_998 - 90_991), 99_998);
        D.due("just to it", x.save(1), 99_999);
        D.due("beyond it", x.save(1), 99_999);
        D.due("far beyond it", x.save(9999), 99_999);
        D.due("status()", x.status(), 0);
        D.due("count(2)", x.count(2), 99_999);
        D.due("count(6)", x.count(6), 13);
        D.due("undo()", x.undo(), 2);
        D.due("undo()", x.undo(), 2);
        D.due("as it was", x.count(2), 99_999);
        D.due("undo()", x.undo(), 2);
        D.due("as it was", x.count(2), 99_998);
        D.due("two at once: to it alone", x.save(2), 99_999);
        D.due("undo()", x.undo(), 2);
        D.due("as it was", x.count(2), 99_998);
        D.due("by ORDERS, too", Due.orders(x, "save 1000 times 3"), 3);
        D.due("count(2)", x.count(2), 99_999);
    }

    private static void nineOfEach() {
        D.promise("I, III, 17: 0 .. 9 of each held");
        SplitFares x = new SplitFares();
        Due.force(x, "costs 1");
        int left = 1000;
        for (int sort = 0; sort < 2; sort++) {
            for (int leg = 0; leg < 2; leg++) {
                int from = leg == 0 ? 0 : 7;
                D.due("none at first", x.held(sort, from, 7 - from), 0);
                for (int n = 1; n <= 9; n++) {
                    left--;
                    D.due("the " + n + ". of sort " + sort, x.buy(sort, from, 7 - from), left);
                    D.due("held", x.held(sort, from, 7 - from), n);
                }
                D.due("a tenth", x.buy(sort, from, 7 - from), -3);
                D.due("held", x.held(sort, from, 7 - from), 9);
                D.due("count(2)", x.count(2), left);
            }
        }
        D.due("count(3)", x.count(3), 36);
        D.due("a tenth by ORDERS", Due.orders(x, "single 0 to 1 times 9; single 0 to 1"), -3);
        D.due("held", x.held(0, 0, 1), 0);
        D.due("nine by ORDERS", Due.orders(x, "single 0 to 1 times 9; return 1 to 0 times 9"), 18);
        D.due("count(3)", x.count(3), 54);
        D.due("undo() makes room", x.undo(), 0);
        D.due("the ninth again", x.buy(1, 1, 0), left - 18);
        D.due("a tenth", x.buy(1, 1, 0), -3);
    }

    private static void nineOfAll() {
        D.promise("I, 39, 42: nine SINGLES, nine RETURNS from each STATION to each other one, nine HALVES");
        SplitFares x = Offices.line("costs 0");
        StringBuilder text = new StringBuilder();
        int clauses = 0;
        for (int i = 0; i < 112; i++) {
            int from = i % 56 / 7;
            int to = i % 7 < from ? i % 7 : i % 7 + 1;
            text.append(clauses == 0 ? "" : ";").append(i < 56 ? "single " : "return ").append(from).append(" to ").append(to).append(" times 9");
            clauses++;
            if (clauses == 12 || i == 111) {
                D.due("orders", Due.orders(x, text.toString()), 9 * clauses);
                D.due("count(3)", x.count(3), (i + 1) * 9);
                text.setLength(0);
                clauses = 0;
            }
        }
        D.due("count(3)", x.count(3), 1008);
        for (int i = 0; i < 64; i++) {
            D.due("held SINGLES", x.held(0, i / 8, i % 8), i % 9 == 0 ? -1 : 9);
            D.due("held RETURNS", x.held(1, i / 8, i % 8), i % 9 == 0 ? -1 : 9);
            D.due("held HALVES", x.held(2, i / 8, i % 8), i % 9 == 0 ? -1 : 0);
        }
        Due.force(x, "costs 0; bars if return = 0");
        for (int n = 0; n < 9; n++) {
            D.due("there by a RETURN", x.ride(0, 7), 1);
            x.force(-1);
            D.due("back by a SINGLE", x.ride(1, 0), 1);
            x.force(1);
            D.due("as many again", Due.orders(x, "return 0 to 7; single 7 to 0"), 2);
        }
        D.due("nine HALVES besides", x.count(3), 1017);
        D.due("held, by ORDERS", Due.orders(x, "save held - 1000"), 1);
        D.due("count(2)", x.count(2), 1017);
        D.due("used of so many", x.used(0, 7, -1), 1);
        // SEED 0: a RETURN from 0 to 1 can't be BOUGHT, of which nine are held
        x.months(0, 1);
        D.due("drawn(2)", x.drawn(2), 1017);
        D.due("nine lapse", x.pass(), 9);
        D.due("count(3)", x.count(3), 1008);
    }

    private static void nineHalves() {
        D.promise("III: of a RETURN the HALF is held then, nine at most");
        SplitFares x = Offices.line("costs 0");
        Due.orders(x, "return 0 to 7 times 9; single 7 to 0 times 9");
        for (int n = 1; n <= 9; n++) {
            D.due("there", x.ride(0, 7), 1);
            D.due("HALVES", x.held(2, 7, 0), n);
            D.due("RETURNS", x.held(1, 0, 7), 9 - n);
            D.due("back by a SINGLE", x.ride(1, 0), 1);
        }
        D.due("no SINGLES are left", x.held(0, 7, 0), 0);
        x.buy(1, 0, 7);
        D.due("a tenth time", x.ride(0, 7), 1);
        D.due("nine HALVES still", x.held(2, 7, 0), 9);
        D.due("count(3)", x.count(3), 9);
        D.due("undo()", x.undo(), 1);
        D.due("nine HALVES still", x.held(2, 7, 0), 9);
        D.due("the RETURN is held", x.held(1, 0, 7), 1);
        x.ride(0, 7);
        for (int n = 8; n >= 0; n--) {
            D.due("back by a HALF", x.ride(1, 0), 1);
            D.due("HALVES", x.held(2, 7, 0), n);
            D.due("no HALF of a HALF", x.held(2, 0, 7), 0);
            x.buy(0, 0, 7);
            x.ride(0, 7);
        }
        D.due("no HALF is left", x.ride(1, 0), -3);
        D.due("count(3)", x.count(3), 0);
    }

    private static void toAtItself() {
        D.promise("III, 18: it can't be to AT itself");
        SplitFares x = Offices.line("costs 0");
        for (int at = 0; at < 8; at++) {
            if (at > 0) {
                x.buy(0, at - 1, at);
                D.due("ride", x.ride(0, at), 1);
            }
            D.due("UP to AT", x.ride(0, at), -3);
            D.due("DOWN to AT", x.ride(1, at), -3);
            D.due("used", x.used(0, at, -1), -1);
            D.due("told(AT, -1)", x.told(at, -1), 1);
            D.due("to AT itself there is none", x.canBe(), 3);
            x.forget();
            x.told(at, 0);
            D.due("none, though it costs nothing", x.canBe(), 0);
            x.forget();
            D.due("count(1)", x.count(1), at);
        }
    }

    private static void usedUp() {
        D.promise("III: what is used is held no more; the last one, none");
        SplitFares x = Offices.line();
        D.due("none", x.ride(0, 7), -3);
        x.buy(0, 0, 7);
        D.due("the last one", x.ride(0, 7), 1);
        D.due("held", x.held(0, 0, 7), 0);
        D.due("none to go back", x.ride(1, 0), -3);
        D.due("undo()", x.undo(), 1);
        D.due("held", x.held(0, 0, 7), 1);
        x.buy(0, 0, 7);
        D.due("one of two", x.ride(0, 7), 1);
        D.due("held", x.held(0, 0, 7), 1);
        D.promise("III: a TICKET that leads a part of the WAY is none");
        SplitFares y = Offices.line();
        for (int s = 0; s < 7; s++) {
            D.due("used", y.used(0, 7, -1), -1);
            D.due("ride", y.ride(0, 7), -3);
            y.buy(0, s, s + 1);
        }
        D.due("used", y.used(0, 7, -1), 7);
        for (int i = 0; i < 7; i++) {
            D.due("used", y.used(0, 7, i), i + 1);
        }
        D.due("used", y.used(0, 7, 7), -1);
    }

    private static void rideAll() {
        D.promise("18: by one TICKET, by seven");
        SplitFares x = Offices.line();
        for (int s = 0; s < 7; s++) {
            x.buy(1, s, s + 1);
        }
        D.due("by seven RETURNS", x.ride(0, 7), 7);
        D.due("seven HALVES", x.count(3), 7);
        D.due("by seven HALVES", x.ride(1, 0), 7);
        D.due("nothing is left", x.count(3), 0);
        D.due("AT", x.count(1), 0);
        D.due("two deeds", x.count(6), 9);
        D.due("undo()", x.undo(), 1);
        D.due("seven HALVES", x.count(3), 7);
        D.due("AT", x.count(1), 7);
        for (int s = 0; s < 7; s++) {
            D.due("held(2, " + (s + 1) + ", " + s + ")", x.held(2, s + 1, s), 1);
        }
    }

    private static void days() {
        D.promise("III, 20: DAY 0 .. 999");
        SplitFares x = new SplitFares();
        D.due("the first DAY passes", x.pass(), 0);
        D.due("count(14)", x.count(14), 1);
        x.terms(0, 998);
        D.due("to the last DAY", x.pass(), 0);
        D.due("count(14)", x.count(14), 999);
        D.due("the last DAY", x.pass(), -3);
        D.due("count(14)", x.count(14), 999);
        D.due("undo()", x.undo(), 3);
        D.due("count(14)", x.count(14), 998);
        D.due("once more", x.pass(), 0);
        D.promise("III, 20: HALVES lapse: none, one, nine, nine of two sorts");
        SplitFares y = Offices.line("costs 0");
        Due.orders(y, "return 0 to 1 times 9; return 0 to 2 times 9; single 1 to 0 times 9; single 2 to 0 times 9");
        D.due("none", y.pass(), 0);
        y.ride(0, 1);
        D.due("one", y.pass(), 1);
        D.due("no more", y.pass(), 0);
        D.due("the others are held", y.count(3), 35);
        y.undo();
        y.undo();
        D.due("it is held again", y.held(2, 1, 0), 1);
        y.ride(1, 0);
        for (int n = 0; n < 8; n++) {
            y.ride(0, 1);
            y.ride(1, 0);
        }
        for (int n = 0; n < 9; n++) {
            y.ride(0, 2);
            y.ride(1, 0);
        }
        D.due("all that is held are HALVES", y.count(3), 18);
        D.due("eighteen", y.pass(), 18);
        D.due("none is held", y.count(3), 0);
        y.undo();
        D.due("eighteen", y.count(3), 18);
        y.terms(0, 999);
        D.due("on the last DAY none lapses", y.pass(), -3);
        D.due("eighteen", y.count(3), 18);
    }

    // ---- 16 deeds to undo

    private static void undoRing() {
        D.promise("21: 16 are kept");
        for (int deeds = 0; deeds <= 50; deeds++) {
            SplitFares x = new SplitFares();
            for (int n = 1; n <= deeds; n++) {
                D.due("save", x.save(n), 1000 + n * (n + 1) / 2);
            }
            int kept = Math.min(deeds, 16);
            D.due("count(6) behind " + deeds, x.count(6), kept);
            for (int n = deeds; n > deeds - kept; n--) {
                D.due("undo()", x.undo(), 2);
                D.due("count(2)", x.count(2), 1000 + n * (n - 1) / 2);
                D.due("count(6)", x.count(6), kept - (deeds - n) - 1);
            }
            D.due("one more", x.undo(), -3);
            D.due("count(2)", x.count(2), 1000 + (deeds - kept) * (deeds - kept + 1) / 2);
        }
        D.promise("21: room again behind undo()");
        SplitFares x = new SplitFares();
        for (int n = 0; n < 20; n++) {
            x.save(1);
        }
        for (int n = 0; n < 5; n++) {
            x.undo();
        }
        x.pass();
        D.due("count(6)", x.count(6), 12);
        D.due("undo()", x.undo(), 3);
        for (int n = 0; n < 11; n++) {
            D.due("undo()", x.undo(), 2);
        }
        D.due("undo()", x.undo(), -3);
        D.due("count(2)", x.count(2), 1004);
    }

    private static void undoneByOrders() {
        D.promise("21: 16 are kept, by ORDERS, too");
        for (int deeds = 14; deeds <= 20; deeds++) {
            SplitFares x = new SplitFares();
            x.pass();
            D.due("save", Due.orders(x, "save 1 times " + deeds), deeds);
            D.due("count(6) behind " + deeds, x.count(6), Math.min(16, deeds + 1));
            for (int n = 0; n < Math.min(16, deeds); n++) {
                D.due("undo()", x.undo(), 2);
            }
            D.due("the DAY, if it is kept", x.undo(), deeds < 16 ? 3 : -3);
            D.due("count(14)", x.count(14), deeds < 16 ? 0 : 1);
        }
        D.promise("13, 21: ORDERS that can't be leave what can be undone, more than 16 deeds behind");
        SplitFares x = new SplitFares();
        for (int n = 1; n <= 20; n++) {
            x.save(n);
        }
        D.due("orders()", Due.orders(x, "save 1000 times 20; pass times 20; save 0"), -3);
        D.due("count(6)", x.count(6), 16);
        for (int n = 20; n > 4; n--) {
            D.due("undo()", x.undo(), 2);
            D.due("count(2)", x.count(2), 1000 + n * (n - 1) / 2);
        }
        D.due("undo()", x.undo(), -3);
    }

    private static void nothingToUndo() {
        D.promise("21: nothing that was ahead of a terms(), back() that was not REFUSED");
        for (int what = 0; what < 3; what++) {
            SplitFares x = new SplitFares();
            for (int n = 0; n < 17; n++) {
                x.save(1);
            }
            D.due("REFUSED", x.terms(what, 1000), -1);
            D.due("count(6)", x.count(6), 16);
            x.terms(what, x.count(14 + what));
            D.due("the same TERM", x.count(6), 0);
            D.due("undo()", x.undo(), -3);
            x.save(5);
            D.due("one behind it", x.count(6), 1);
            D.due("undo()", x.undo(), 2);
            D.due("undo()", x.undo(), -3);
            D.due("count(2)", x.count(2), 1017);
        }
        SplitFares x = new SplitFares();
        x.save(1);
        x.image(0);
        x.save(2);
        D.due("REFUSED", x.back(1), -2);
        D.due("REFUSED", x.back(2), -1);
        D.due("count(6)", x.count(6), 2);
        x.back(0);
        D.due("count(6)", x.count(6), 0);
        D.due("undo()", x.undo(), -3);
        x.save(3);
        D.due("undo()", x.undo(), 2);
        D.due("count(2)", x.count(2), 1001);
    }

    private static void leavesWhatCanBeUndone() {
        D.promise("2, 10, 12, 16, 32: it leaves what can be undone");
        SplitFares x = new SplitFares();
        x.pass();
        x.save(1);
        x.train(255, 1, 8);
        D.due("train()", x.count(6), 2);
        Due.tape(x, "\u0003\u0001\u0000");
        x.row();
        D.due("row()", x.count(6), 2);
        D.due("law()", Due.law(x, "costs 0"), 0);
        x.force(0);
        D.due("law(), force()", x.count(6), 2);
        x.told(0, 0);
        x.forget();
        x.image(0);
        x.months(5, 60);
        Due.orders(x, "save 0");
        Due.orders(x, "save");
        Due.orders(x, "save 1 if 1 = 2");
        D.due("told(), forget(), image(), months(), REFUSED ORDERS, ORDERS that run nothing", x.count(6), 2);
        D.due("undo()", x.undo(), 2);
        D.due("undo() leaves TRAINS", x.count(0), 2);
        D.due("undo() leaves LAWS", x.count(5), 1);
        D.due("undo() leaves FORCE", x.count(13), 0);
        D.due("undo()", x.undo(), 3);
        D.due("count(14)", x.count(14), 0);
    }

    // ---- III, on paper

    private static void ofSoManyAtMost() {
        D.promise("23, 24: BY k, FEWEST, from one SINGLE to seven");
        for (int longest = 1; longest <= 7; longest++) {
            SplitFares x = Offices.line("costs far * far; bars if far > " + longest);
            int fewest = (7 + longest - 1) / longest;
            D.due("fewest", x.fewest(0, 0, 7), fewest);
            D.due("fewest, down", x.fewest(1, 7, 0), fewest);
            for (int k = 1; k <= 7; k++) {
                D.due("byAtMost " + k + " of " + fewest + " is told", x.byAtMost(0, 0, 7, k) >= 0 ? 1 : 0, k >= fewest ? 1 : 0);
            }
            D.due("by seven", x.byAtMost(0, 0, 7, 7), 7);
            D.due("the CHEAPEST", x.cheapest(0, 0, 7, -1), 7);
            D.due("the seventh", x.cheapest(0, 0, 7, 6), 7);
            D.due("an eighth", x.cheapest(0, 0, 7, 7), -1);
        }
        D.promise("22 to 28: all BARRED");
        SplitFares x = Offices.line("bars");
        D.due("cheapest", x.cheapest(0, 0, 7, -1), -1);
        D.due("byAtMost", x.byAtMost(0, 0, 7, 7), -1);
        D.due("fewest", x.fewest(0, 0, 7), -1);
        D.due("ways", x.ways(0, 0, 7), 0);
        D.due("thereAndBack", x.thereAndBack(0, 1, 0, 7), -1);
        D.due("saved", x.saved(0, 0, 7), -1);
        D.due("bestTrain", x.bestTrain(0, 7), -1);
        D.due("mostSaved", x.mostSaved(0, 0), -1);
        D.promise("22: what a WAY COSTS, at most and at least");
        Due.force(x, "costs 1000 * 10; bars if far > 1");
        D.due("seven times 9,999", x.cheapest(0, 0, 7, -1), 69_993);
        D.due("there and back", x.thereAndBack(0, 1, 0, 7), 69_993);
        Due.force(x, "costs 1000 * 10; bars if far > 1 or return = 1");
        D.due("there and back by SINGLES", x.thereAndBack(0, 1, 0, 7), 139_986);
        Due.force(x, "costs 0");
        D.due("nothing", x.cheapest(0, 0, 7, -1), 0);
        D.due("nothing, there and back", x.thereAndBack(0, 1, 0, 7), 0);
    }

    private static void forNothing() {
        D.promise("22 to 29: SINGLES that COST 0");
        SplitFares x = Offices.line("costs 0");
        for (int p = 0; p < 8; p++) {
            for (int q = p + 1; q < 8; q++) {
                D.due("cheapest", x.cheapest(0, p, q, -1), 0);
                D.due("by all STATIONS", x.cheapest(0, p, q, 0), p + 1);
                D.due("byAtMost", x.byAtMost(1, q, p, 1), 0);
                D.due("fewest", x.fewest(0, p, q), 1);
                D.due("ways", x.ways(1, q, p), 1 << q - p - 1);
                D.due("saved", x.saved(0, p, q), 0);
                D.due("bestTrain", x.bestTrain(q, p), 1);
            }
        }
        D.due("mostSaved", x.mostSaved(0, 0), 0);
        D.due("from", x.mostSaved(0, 1), 0);
        D.due("to", x.mostSaved(0, 2), 1);
        Due.force(x, "costs 0; bars if far > 1");
        D.due("fewest by seven", x.fewest(0, 0, 7), 7);
        D.due("byAtMost six", x.byAtMost(0, 0, 7, 6), -1);
        D.due("byAtMost seven", x.byAtMost(0, 0, 7, 7), 0);
        D.due("ways", x.ways(0, 0, 7), 1);
        D.due("saved: it is BARRED", x.saved(0, 0, 7), 0);
    }

    private static void firstByItsStations() {
        D.promise("22: no WAY leads by a leg that is BARRED, to where none goes on");
        SplitFares x = Offices.line("costs 5; costs 6 if from = 1 and to = 7; bars if from = 0 and to = 1");
        D.due("cost", x.cheapest(0, 0, 7, -1), 5);
        D.due("1 lies a penny off, BARRED", x.cheapest(0, 0, 7, 0), 7);
        Due.force(x, "costs 5; costs 6 if to < 7; bars if from > 0");
        D.due("cost", x.cheapest(0, 0, 7, -1), 5);
        D.due("none goes on from the others, a penny more", x.cheapest(0, 0, 7, 0), 7);
        Due.force(x, "costs 5; costs 1 if to < 7; costs 0 if to = 7 and from > 0; bars if from = 1; bars if from > 1 and to < 7");
        D.due("cost", x.cheapest(0, 0, 7, -1), 1);
        D.due("not by 1, by 2", x.cheapest(0, 0, 7, 0), 2);
        D.promise("31: nor by a TICKET to where none leads on");
        SplitFares y = Offices.line();
        y.buy(0, 0, 1);
        y.buy(0, 0, 2);
        y.buy(0, 1, 3);
        y.buy(0, 0, 4);
        y.buy(0, 4, 7);
        D.due("used", y.used(0, 7, -1), 2);
        D.due("by 4", y.used(0, 7, 0), 4);
        D.due("ride", y.ride(0, 7), 2);
        D.due("the others are held", y.count(3), 3);
    }

    private static void thereAndBackForNothing() {
        D.promise("26: SINGLES that COST 0, RETURNS that COST 0");
        SplitFares x = Offices.line("costs 0 if return = 0; costs 5 if return = 1");
        D.due("SINGLES for nothing", x.thereAndBack(0, 1, 0, 7), 0);
        Due.force(x, "costs 0; bars if return = 1");
        D.due("SINGLES for nothing, no RETURNS", x.thereAndBack(0, 1, 0, 7), 0);
        Due.force(x, "costs 0 if from < to; bars if return = 1");
        D.due("there for nothing", x.thereAndBack(0, 1, 0, 7), 70);
        Due.force(x, "costs 0 if from > to; bars if return = 1");
        D.due("back for nothing", x.thereAndBack(0, 1, 0, 7), 70);
        Due.force(x, "costs 0; bars if return = 0");
        D.due("RETURNS for nothing", x.thereAndBack(0, 1, 0, 7), 0);
        Due.force(x, "costs 0; bars if return = 0 and hour = 17");
        D.due("RETURNS for nothing, SINGLES there", x.thereAndBack(0, 1, 0, 7), 0);
        SplitFares y = Offices.line("costs 0; bars if return = 1; bars if return = 0 and hour = 17");
        D.due("SINGLES there alone", y.thereAndBack(0, 1, 0, 7), -1);
    }

    private static void thereAndBackBySeven() {
        D.promise("26: seven legs on the one, one on the other");
        SplitFares x = Offices.line("bars if far > 1 and hour = 8");
        x.train(Due.stops(0, 7), 0, 9);
        D.due("seven there, one back", x.thereAndBack(0, 2, 0, 7), 140);
        x.train(Due.stops(0, 7), 1, 9);
        Due.force(x, "bars if far > 1 and hour = 17");
        D.due("one there, seven back", x.thereAndBack(3, 1, 0, 7), 140);
        Due.force(x, "bars if far > 1 and hour > 7");
        D.due("RETURNS for each leg", x.thereAndBack(0, 1, 0, 7), 105);
        Due.force(x, "bars if far > 1 or return = 1");
        D.due("seven there, seven back", x.thereAndBack(0, 1, 0, 7), 140);
        D.due("none by such as do not STOP", x.thereAndBack(0, 2, 0, 7), -1);
        D.due("none by such as do not STOP", x.thereAndBack(3, 1, 0, 7), -1);
    }

    private static void thereAndBack() {
        D.promise("26: there is none");
        SplitFares x = Offices.line("bars if hour = 8 and return = 0; bars if hour = 17 and return = 1");
        D.due("SINGLES no good there, RETURNS no good back", x.thereAndBack(0, 1, 0, 7), -1);
        Due.force(x, "bars if return = 0; bars if from = 3 and to > 3");
        D.due("RETURNS round 3", x.thereAndBack(0, 1, 0, 7), 105);
        D.due("none from 3", x.thereAndBack(0, 1, 3, 7), -1);
        D.due("one to 3", x.thereAndBack(0, 1, 2, 3), 15);
        D.promise("26: no RETURN for one leg alone");
        Due.force(x, "costs 0 if return = 1; bars if return = 1 and hour = 17");
        D.due("good there alone", x.thereAndBack(0, 1, 0, 7), 140);
        Due.force(x, "costs 0 if return = 1; bars if return = 1 and hour = 8");
        D.due("good back alone", x.thereAndBack(0, 1, 0, 7), 140);
        Due.force(x, "costs 0 if return = 1");
        D.due("good there and back", x.thereAndBack(0, 1, 0, 7), 0);
    }

    private static void saved() {
        D.promise("27: 0, if a SINGLE all the way is BARRED and there is another WAY");
        SplitFares x = Offices.line("costs far * far; bars if far = 7");
        D.due("BARRED, another WAY", x.saved(0, 0, 7), 0);
        D.due("not BARRED", x.saved(0, 0, 6), 30);
        D.due("one far, nothing is saved", x.saved(0, 0, 1), 0);
        Due.force(x, "costs far * far; bars if far = 1");
        D.due("BARRED, no other WAY", x.saved(0, 0, 1), -1);
        D.promise("27: as much as can be");
        Due.force(x, "costs 1000 * 10; costs 0 if far = 1");
        D.due("all of 9,999", x.saved(0, 0, 7), 9999);
    }

    private static void mostSaved() {
        D.promise("29: the lowest p, then the lowest q; both at the ends");
        SplitFares x = Offices.line("costs 5 * far");
        D.due("0 by all alike", x.mostSaved(0, 0), 0);
        D.due("from", x.mostSaved(0, 1), 0);
        D.due("to", x.mostSaved(0, 2), 1);
        D.due("from, down", x.mostSaved(1, 1), 1);
        D.due("to, down", x.mostSaved(1, 2), 0);
        Due.force(x, "bars; costs 0");
        D.due("no WAY between any two", x.mostSaved(0, 0), -1);
        Due.force(x, "bars if not (from = 6 and to = 7)");
        D.due("between the last two alone", x.mostSaved(0, 0), 0);
        D.due("from", x.mostSaved(0, 1), 6);
        D.due("to", x.mostSaved(0, 2), 7);
        D.due("no WAY down", x.mostSaved(1, 0), -1);
        D.due("no WAY down, from", x.mostSaved(1, 1), -1);
        D.due("no WAY down, to", x.mostSaved(1, 2), -1);
        D.due("such a number, where there is a WAY", x.mostSaved(0, 3), -1);
        D.promise("29: of as much SAVED the lowest p, whatever the q");
        SplitFares y = Offices.line("costs 5; costs 10 + 1 if from = 1 and to = 6 or from = 2 and to = 4");
        D.due("1 to 6, 2 to 4", y.mostSaved(0, 0), 1);
        D.due("from", y.mostSaved(0, 1), 1);
        D.due("to", y.mostSaved(0, 2), 6);
        Due.force(y, "costs 5; costs 10 + 1 if from = 5 and to = 3 or from = 6 and to = 0");
        D.due("5 to 3, 6 to 0", y.mostSaved(1, 0), 1);
        D.due("from", y.mostSaved(1, 1), 5);
        D.due("to", y.mostSaved(1, 2), 3);
        Due.force(y, "costs 5; costs 10 + 1 if from = 3 and (to = 5 or to = 6)");
        D.due("3 to 5, 3 to 6: the lowest q", y.mostSaved(0, 2), 5);
        Due.force(y, "costs 5; costs 10 + 1 if from = 5 and (to = 3 or to = 0)");
        D.due("5 to 3, 5 to 0: the lowest q", y.mostSaved(1, 2), 0);
        Due.force(y, "costs 5; costs 10 + 1 if from = 1 and to = 6; costs 10 + 2 if from = 2 and to = 4");
        D.due("most is SAVED ahead of the lowest p", y.mostSaved(0, 1), 2);
    }

    private static void purseEnd() {
        D.promise("30: CHEAPEST for no more than PURSE");
        SplitFares x = Offices.line("costs 1000; costs 1000 + 1 if to = 2; costs 999 if to = 3; bars if far = 4");
        // 1: 1,000; 2: 1,001; 3: 999; 4: 999 and 1,000; 5, 6, 7: 1,000
        D.due("just as much, a penny more, a penny less", x.purseEnd(), Due.stops(0, 1, 3, 5, 6, 7));
        x.save(1);
        D.due("a penny more in it", x.purseEnd(), Due.stops(0, 1, 2, 3, 5, 6, 7));
        x.save(998);
        D.due("1,999", x.purseEnd(), 255);
        x.undo();
        D.due("1,001", x.purseEnd(), 255 - 16);
        Due.force(x, "costs 1000; bars if far > 1");
        D.due("one far", x.purseEnd(), 3);
        x.buy(0, 0, 7);
        D.due("a penny is in it", x.purseEnd(), 1);
        Due.force(x, "costs 1");
        D.due("for a penny", x.purseEnd(), 255);
        x.buy(0, 6, 7);
        D.due("nothing is in it", x.purseEnd(), 1);
        Due.force(x, "costs 0");
        D.due("for nothing", x.purseEnd(), 255);
        D.promise("30: AT, too, at both ends; without TRAINS");
        D.due("without TRAINS", new SplitFares().purseEnd(), 1);
        x.force(-1);
        x.ride(0, 7);
        D.due("from 7 for nothing", x.purseEnd(), 128);
        D.due("by DOWN TRAINS alone", x.count(1), 7);
        x.save(10);
        D.due("from 7 for 10", x.purseEnd(), 128 + 64);
    }

    private static void told() {
        D.promise("I, 34: TOLD, from none to six, all of which must be so");
        SplitFares x = new SplitFares();
        for (int t = 0; t < 6; t++) {
            // TRAIN t stops at 0 and at t + 1 .. 7: one STATION fewer each time
            x.train(1 | 255 & -1 << t + 1, 1, t);
        }
        D.due("none told", x.canBe(), 63);
        for (int s = 1; s <= 5; s++) {
            x.told(s, -1);
            D.due("there is none to " + s, x.canBe(), 63 & -1 << s);
        }
        x.told(6, 60);
        D.due("six told", x.canBe(), 32);
        D.due("a seventh", x.told(7, -1), -5);
        D.due("six told", x.canBe(), 32);
        x.forget();
        D.due("none told", x.canBe(), 63);
        D.promise("I: it costs n, or there is none");
        x.told(6, 59);
        D.due("a penny less", x.canBe(), 0);
        x.forget();
        x.told(6, 61);
        D.due("a penny more", x.canBe(), 0);
        x.forget();
        x.told(6, -1);
        D.due("none", x.canBe(), 0);
        x.forget();
        Due.force(x, "costs 0");
        x.told(6, 0);
        D.due("nothing", x.canBe(), 63);
        x.told(6, -1);
        D.due("nothing, and none", x.canBe(), 0);
    }

    private static void ask() {
        D.promise("35: the lowest STATION, from 0 to 7");
        SplitFares x = Offices.trains(6);
        D.due("all alike, the lowest", x.ask(0), 0);
        D.due("all six are left", x.ask(1), 6);
        SplitFares y = new SplitFares();
        y.train(Due.stops(0, 1), 1, 0);
        y.train(Due.stops(0, 1, 7), 1, 0);
        D.due("7 alone tells them apart", y.ask(0), 7);
        D.due("one is left", y.ask(1), 1);
        y.train(Due.stops(0, 7), 1, 0);
        // 1: 10, 10, none; 7: none, 70, 70
        D.due("1 and 7 alike, the lowest", y.ask(0), 1);
        D.due("two are left", y.ask(1), 2);
        D.promise("35: it can be one, none");
        y.told(7, -1);
        D.due("one, the lowest STATION", y.ask(0), 0);
        D.due("one", y.ask(1), 1);
        y.told(1, -1);
        D.due("none", y.ask(0), -1);
        D.due("none", y.ask(1), -1);
        D.due("none", y.ask(2), -1);
    }

    private static void askAlike() {
        D.promise("35: TRAINS alike, one to six; of some that can't be");
        for (int n = 1; n <= 6; n++) {
            SplitFares x = Offices.trains(n);
            D.due("the lowest STATION of " + n, x.ask(0), 0);
            D.due("all " + n + " are left", x.ask(1), n);
            x.buy(0, 0, 7);
            x.ride(0, 7);
            D.due("the lowest STATION, from 7", x.ask(0), 0);
            D.due("all " + n + " are left", x.ask(1), n);
        }
        SplitFares x = new SplitFares();
        for (int t = 0; t < 6; t++) {
            x.train(t % 2 == 0 ? 255 : Due.stops(0, 7), t % 2 == 0 ? 0 : 1, t);
        }
        x.buy(0, 0, 7);
        x.ride(1, 7);
        x.told(1, 60);
        D.due("every other one can be", x.canBe(), 21);
        D.due("they are alike: the lowest STATION", x.ask(0), 0);
        D.due("three are left", x.ask(1), 3);
        x.forget();
        x.told(1, -1);
        D.due("the others can be", x.canBe(), 42);
        D.due("they are alike: the lowest STATION", x.ask(0), 0);
        D.due("three are left", x.ask(1), 3);
    }

    /** From 0 by TRAINS that STOP at one STATION more each, at no more, the same: what 7 costs tells them apart. */
    private static void askWhoIsAlike() {
        D.promise("35: the most alike, whichever of six TRAINS they are");
        int[][] others = {{0, 7}, {0, 1, 7}, {0, 2, 7}, {0, 1, 2, 7}};
        for (int alike = 0; alike < 64; alike++) {
            int size = Integer.bitCount(alike);
            if (size != 2 && size != 3) {
                continue;
            }
            SplitFares x = new SplitFares();
            int other = 0;
            for (int t = 0; t < 6; t++) {
                if ((alike >> t & 1) == 1) {
                    x.train(Due.stops(0, 3, 7), 1, t);
                } else {
                    x.train(Due.stops(others[other]), 1, t);
                    other++;
                }
            }
            Due.force(x, "costs far * far");
            // of two, 7 costs 49, 37, 29, 27, 25, 25; of three, 3 costs 9 on them, and there is none on the three others
            D.due("ask(0) of " + alike, x.ask(0), size == 2 ? 7 : 3);
            D.due("ask(1) of " + alike, x.ask(1), size);
            x.told(7, 25);
            D.due("canBe() of " + alike, x.canBe(), alike);
            D.due("ask(1) of those alone", x.ask(1), size);
            D.due("ask(0) of those alone", x.ask(0), 0);
            x.forget();
            x.told(7, 49);
            D.due("canBe() of the other one", Integer.bitCount(x.canBe() & ~alike), 1);
            D.due("ask(1) of the other one", x.ask(1), 1);
        }
    }

    private static void few() {
        D.promise("36: CHECKS 0, 1, 9, 10 of ten; k 1, 20; n 0, 19, 20, 99");
        int[] checks = {0, 1, 5, 9, 10};
        long[][] due = {
            {WHOLE, WHOLE, WHOLE, WHOLE, WHOLE, WHOLE},
            {900_000_000_000L, 29_512_660L, 999_999_999_909L, 999_999_999_894L, 998_255_635_351L, 121_576_654_587L},
            {500_000_000_000L, 0, 999_999_999_958L, 999_999_046_270L, 200L, 953_674L},
            {100_000_000_000L, 0, 999_999_999_909L, 878_423_345_307L, 0, 0},
            {0, 0, WHOLE, 0, 0, 0}};
        for (int i = 0; i < checks.length; i++) {
            SplitFares x = new SplitFares();
            x.terms(1, checks[i]);
            D.due("few(1, 0) by " + checks[i], x.few(1, 0), WHOLE);
            D.due("few(20, 0) by " + checks[i], x.few(20, 0), WHOLE);
            D.due("few(1, 1) by " + checks[i], x.few(1, 1), due[i][0]);
            D.due("few(1, 99) by " + checks[i], x.few(1, 99), due[i][1]);
            D.due("few(20, 19) by " + checks[i], x.few(20, 19), due[i][2]);
            D.due("few(20, 20) by " + checks[i], x.few(20, 20), due[i][3]);
            D.due("few(20, 99) by " + checks[i], x.few(20, 99), due[i][4]);
            D.due("few(1, 20) by " + checks[i], x.few(1, 20), due[i][5]);
        }
    }

    // ---- IV

    private static void monthsBySeed() {
        D.promise("IV, 38: SEED 0, 1,000,000; DRAWS modulo 1,000,003, TRAINS, 8, 4");
        SplitFares x = Offices.trains(1);
        // of one TRAIN: STATIONS, kinds 1 1, 4 2, 1 2 by SEED 0; 2 2, 4 0, 0 3 by 1,000,000
        D.due("a RETURN to 1", x.months(0, 1), 0);
        D.due("PURSE", x.drawn(0), 985);
        D.due("held", x.drawn(2), 1);
        D.due("no ride to 4", x.months(0, 2), 0);
        D.due("AT", x.drawn(1), 0);
        D.due("a ride to 1", x.months(0, 3), 1);
        D.due("AT", x.drawn(1), 1);
        D.due("its HALF", x.drawn(2), 1);
        D.due("no ride", x.months(1_000_000, 1), 0);
        D.due("PURSE", x.drawn(0), 1000);
        D.due("a SINGLE to 4", x.months(1_000_000, 2), 0);
        D.due("PURSE", x.drawn(0), 960);
        D.due("held", x.drawn(2), 1);
        D.due("DAY", x.drawn(3), 0);
        D.due("a DAY", x.months(1_000_000, 3), 0);
        D.due("DAY", x.drawn(3), 1);
        D.due("nothing was done", x.count(2) + x.count(3) + x.count(14) + x.count(6), 1000);
        D.promise("IV: a DRAW of TRAINS, one to six");
        // the third DRAW of them by SEED 0 is 671,873
        int[] drawn = {0, 1, 2, 1, 3, 5};
        for (int trains = 1; trains <= 6; trains++) {
            SplitFares alone = new SplitFares();
            SplitFares others = new SplitFares();
            for (int t = 0; t < trains; t++) {
                alone.train(255, t == drawn[trains - 1] ? 1 : 0, t);
                others.train(255, t == drawn[trains - 1] ? 0 : 1, t);
            }
            D.due("of " + trains + ", that goes to 1", alone.months(0, 3), 1);
            D.due("of " + trains + ", that does not", others.months(0, 3), 0);
        }
        D.promise("38: n 60 and 59 are as many DRAWS");
        for (int n = 59; n <= 60; n++) {
            Model m = new Model();
            m.train(255, 1, 0);
            D.due("months(7, " + n + ")", x.months(7, n), m.months(7, n));
            for (int what = 0; what < 4; what++) {
                D.due("drawn(" + what + ")", x.drawn(what), m.drawn(what));
            }
        }
    }

    private static void monthsByDay() {
        D.promise("IV: as long as DAY is below 999");
        SplitFares x = Offices.trains(1);
        x.terms(0, 999);
        D.due("on the last DAY", x.months(0, 60), 0);
        D.due("PURSE", x.drawn(0), 1000);
        D.due("AT", x.drawn(1), 0);
        D.due("held", x.drawn(2), 0);
        D.due("DAY", x.drawn(3), 999);
        x.terms(0, 998);
        D.due("up to it", x.months(1_000_000, 3), 0);
        D.due("DAY", x.drawn(3), 999);
        D.due("nothing behind it", x.months(1_000_000, 60), 0);
        D.due("PURSE", x.drawn(0), 960);
        D.due("DAY", x.drawn(3), 999);
        D.due("DAY as it is", x.count(14), 998);
    }

    private static void monthsAsIfBought() {
        D.promise("IV: each if it can be");
        SplitFares x = Offices.trains(1);
        Due.force(x, "costs 1000 + 1");
        D.due("nothing can be bought, so nothing ridden", x.months(0, 60), 0);
        D.due("PURSE", x.drawn(0), 1000);
        D.due("AT", x.drawn(1), 0);
        D.due("held", x.drawn(2), 0);
        Due.force(x, "bars; costs 0");
        D.due("nothing can be ridden", x.months(0, 60), 0);
        D.due("PURSE", x.drawn(0), 1000);
        D.due("AT", x.drawn(1), 0);
        D.due("a REFUSED deed of MONTHS is no REFUSED call", x.count(8) + x.count(9) + x.count(10), 0);
        D.due("status()", x.status(), 0);
        D.promise("38, 39: a REFUSED months() leaves the latest");
        x.force(-1);
        x.months(0, 3);
        x.months(0, 61);
        D.due("AT", x.drawn(1), 1);
        x.months(0, 1);
        D.due("AT", x.drawn(1), 0);
        D.promise("38, 39: a months() that is REFUSED as there are no TRAINS leaves the latest, too");
        SplitFares y = new SplitFares();
        y.image(0);
        y.train(255, 1, 0);
        y.months(0, 3);
        y.back(0);
        D.due("no TRAINS", y.months(0, 3), -3);
        int[] due = {985, 1, 1, 0};
        for (int what = 0; what < due.length; what++) {
            D.due("drawn(" + what + ")", y.drawn(what), due[what]);
        }
    }

    private static void monthsByLaw() {
        D.promise("IV: laws asked with the DAY that the MONTHS have reached; HALVES lapse in them");
        SplitFares x = Offices.trains(1);
        Due.force(x, "costs 100 * [day + 1]");
        // STATIONS, kinds by SEED 4: 6 1, 1 3, 7 0, 3 0, 1 2, 3 1, 6 2, 3 1, 6 3
        int[] used = {0, 0, 0, 0, 0, 0, 1, 1, 1};
        int[] purse = {900, 900, 700, 500, 500, 300, 300, 100, 100};
        int[] at = {0, 0, 0, 0, 0, 0, 6, 6, 6};
        int[] held = {1, 1, 2, 3, 3, 4, 4, 5, 4};
        int[] day = {0, 1, 1, 1, 1, 1, 1, 1, 2};
        for (int n = 1; n <= 9; n++) {
            D.due("months(4, " + n + ")", x.months(4, n), used[n - 1]);
            D.due("PURSE behind " + n, x.drawn(0), purse[n - 1]);
            D.due("AT behind " + n, x.drawn(1), at[n - 1]);
            D.due("held behind " + n, x.drawn(2), held[n - 1]);
            D.due("DAY behind " + n, x.drawn(3), day[n - 1]);
        }
        Due.force(x, "costs 100; bars if day = 1");
        D.due("BARRED on the first DAY", x.months(4, 9), 0);
        D.due("AT", x.drawn(1), 0);
        Due.force(x, "costs 100; bars if day = 0");
        D.due("BARRED on DAY 0", x.months(4, 9), 1);
        D.due("DAY as it is", x.count(14), 0);
        D.promise("IV: TICKETS held, PURSE, AT, DAY as they are at first");
        SplitFares y = Offices.line();
        y.buy(0, 0, 6);
        y.buy(1, 6, 3);
        y.ride(0, 6);
        y.save(9);
        y.terms(0, 40);
        // STATIONS, kinds by SEED 3: TRAINS are drawn of two
        D.due("months(3, 1)", y.months(3, 1), 0);
        D.due("a SINGLE from 6 to 0", y.drawn(0), 1000 - 60 - 45 + 9 - 60);
        D.due("AT", y.drawn(1), 6);
        D.due("held", y.drawn(2), 2);
        D.due("DAY", y.drawn(3), 40);
    }

    private static void rows() {
        D.promise("IV, 10: by threes; one within which the TAPE ends");
        String train = "\u0081\u0001\u0017";
        for (int bytes = 1; bytes <= 9; bytes++) {
            SplitFares x = new SplitFares();
            Due.tape(x, train.repeat(3).substring(0, bytes));
            D.due("row() of " + bytes, x.row(), bytes / 3);
            D.due("delays()", x.delays(), bytes % 3 == 0 ? 0 : 1);
            D.due("count(0)", x.count(0), bytes / 3);
            D.due("count(7)", x.count(7), 0);
            D.due("status()", x.status(), 0);
            D.due("of the last", x.of(bytes / 3 - 1, 2), bytes < 3 ? -1 : 23);
            D.due("row() of nothing", x.row(), -6);
            D.due("delays() of the latest not REFUSED", x.delays(), bytes % 3 == 0 ? 0 : 1);
        }
        D.promise("IV: one that can't be, each byte at its bounds");
        int[][] rows = {{3, 0, 0}, {3, 1, 23}, {255, 1, 0}, {0, 1, 0}, {1, 1, 0}, {128, 1, 0}, {3, 2, 0}, {3, 255, 0}, {3, 1, 24}, {3, 1, 255}};
        for (int i = 0; i < rows.length; i++) {
            SplitFares x = new SplitFares();
            Due.tape(x, "" + (char) rows[i][0] + (char) rows[i][1] + (char) rows[i][2]);
            D.due("row() " + i, x.row(), i < 3 ? 1 : 0);
            D.due("delays()", x.delays(), i < 3 ? 0 : 1);
            D.due("of", x.of(0, 0), i < 3 ? rows[i][0] : -1);
            D.due("a DELAY is no REFUSED call", x.count(8) + x.count(11) + x.count(12), 0);
        }
    }

    private static void rowsWithoutRoom() {
        D.promise("IV, 10, 11: one for which there is no room");
        String train = "\u00ff\u0001\u0005";
        for (int before = 0; before <= 6; before++) {
            SplitFares x = Offices.trains(before);
            Due.tape(x, train.repeat(6));
            D.due("row() behind " + before, x.row(), 6 - before);
            D.due("delays()", x.delays(), before);
            D.due("count(0)", x.count(0), 6);
            D.due("count(11)", x.count(11), 0);
        }
        SplitFares x = new SplitFares();
        Due.tape(x, train.repeat(134).substring(0, 400));
        D.due("400 bytes", x.count(7), 400);
        D.due("row()", x.row(), 6);
        D.due("127 without room, one within which the TAPE ends", x.delays(), 128);
        Due.tape(x, "\u0000\u0000\u0000" + train);
        D.due("row()", x.row(), 0);
        D.due("delays()", x.delays(), 2);
        D.promise("IV: room behind one that can't be");
        SplitFares y = Offices.trains(5);
        Due.tape(y, "\u0000\u0000\u0000" + train + train);
        D.due("row()", y.row(), 1);
        D.due("delays()", y.delays(), 2);
    }

    private static void images() {
        D.promise("40, 41: nothing behind back() can be undone, IMAGES stay");
        SplitFares x = new SplitFares();
        x.image(0);
        D.due("an IMAGE of nothing", x.back(0), 0);
        counts(x, 0, 0, 1000, 0, 0, 0, 0, 0, 0, 0, 0, 0, 0, -1, 0, 1, 0);
        for (int n = 0; n < 20; n++) {
            x.save(1);
        }
        x.image(1);
        D.due("image() leaves what can be undone", x.count(6), 16);
        D.due("back(0)", x.back(0), 0);
        D.due("count(2)", x.count(2), 1000);
        D.due("back(1)", x.back(1), 0);
        D.due("count(2)", x.count(2), 1020);
        D.due("count(6)", x.count(6), 0);
        D.due("undo()", x.undo(), -3);
        D.due("back(1), twice", x.back(1), 0);
        D.due("count(2)", x.count(2), 1020);
        D.due("the refused one is counted still", x.count(10), 1);
        D.due("status()", x.status(), 0);
    }

    private static void imagesOfAll() {
        D.promise("IV: from full to empty and back");
        SplitFares x = new SplitFares();
        x.image(0);
        for (int n = 0; n < 6; n++) {
            x.train(255 - n, n % 2, 23 - n);
            Due.law(x, "costs " + n);
            x.told(7 - n, n);
        }
        x.force(5);
        x.terms(0, 999);
        x.terms(1, 10);
        x.terms(2, 9);
        for (int n = 0; n < 9; n++) {
            x.buy(1, 7, 6);
            x.save(9999);
        }
        x.image(1);
        D.due("to empty", x.back(0), 0);
        counts(x, 0, 0, 1000, 0, 0, 0, 0, 0, 0, 0, 0, 0, 0, -1, 0, 1, 0);
        D.due("of(0, 0)", x.of(0, 0), -1);
        D.due("held(1, 7, 6)", x.held(1, 7, 6), 0);
        D.due("force(0)", x.force(0), -2);
        D.due("canBe()", x.canBe(), 0);
        D.due("price", x.price(0, 0, 7), 70);
        for (int n = 0; n < 6; n++) {
            x.train(3 + n * 3, 1 - n % 2, n);
            Due.law(x, "costs 100 + " + n);
            x.told(n, -1);
        }
        x.force(3);
        x.terms(0, 7);
        x.terms(1, 7);
        x.terms(2, 7);
        x.buy(0, 7, 6);
        D.due("to full", x.back(1), 0);
        counts(x, 6, 0, 1000 + 9 * 9999 - 45, 9, 6, 6, 0, 0, 0, 1, 0, 0, 0, 5, 999, 10, 9);
        for (int n = 0; n < 6; n++) {
            D.due("of", x.of(n, 0), 255 - n);
            D.due("of", x.of(n, 1), n % 2);
            D.due("of", x.of(n, 2), 23 - n);
            D.due("compare", x.compare(n, 0, 7), n);
        }
        D.due("held(1, 7, 6)", x.held(1, 7, 6), 9);
        D.due("held(0, 7, 6)", x.held(0, 7, 6), 0);
        D.due("canBe() by what was told of 2 .. 7", x.canBe(), 0);
        D.due("a seventh TRAIN", x.train(3, 1, 0), -5);
        D.due("a seventh LAW", Due.law(x, "bars"), -5);
        D.due("a seventh TOLD", x.told(0, 0), -5);
        D.due("a tenth RETURN", x.buy(1, 7, 6), -3);
        D.due("a thousandth DAY", x.pass(), -3);
    }

    private static void imagesOfTold() {
        D.promise("40, 41: each of six that were TOLD, its STATION and what it was");
        for (int one = -1; one < 6; one++) {
            for (int station = 0; station < 2; station++) {
                SplitFares x = Offices.trains(1);
                for (int n = 0; n < 6; n++) {
                    // of one STATION or of one cost it is not so, of the others it is
                    x.told(n == one && station == 1 ? 7 : n + 1, n == one && station == 0 ? 9 : 10 * (n + 1));
                }
                x.image(0);
                x.forget();
                for (int n = 0; n < 6; n++) {
                    x.told(one < 0 ? 0 : n + 2, one < 0 ? 0 : 10 * (n + 2));
                }
                D.due("canBe() ahead of back()", x.canBe(), one < 0 ? 0 : 1);
                x.back(0);
                D.due("canBe() by all but the " + one + ".", x.canBe(), one < 0 ? 1 : 0);
                D.due("forget()", x.forget(), 6);
            }
        }
    }

    private static void countsOfRefusals() {
        D.promise("42: how many calls were REFUSED, each by its own number");
        SplitFares x = new SplitFares();
        for (int n = 1; n <= 30; n++) {
            x.train(0, 0, 0);
            x.force(9);
            x.undo();
            x.row();
            counts(x, 0, 0, 1000, 0, 0, 0, 0, 0, n, n, n, 0, n);
        }
        SplitFares y = Offices.full();
        for (int n = 1; n <= 30; n++) {
            y.train(3, 0, 0);
            y.told(0, 0);
            y.law();
            D.due("count(11)", y.count(11), 3 * n);
        }
        D.due("none by -1", y.count(8), 0);
        D.due("none by -2", y.count(9), 0);
        D.due("none by -6", y.count(12), 0);
    }

    private static void status() {
        D.promise("43: of the latest such call, behind each that is and that is not REFUSED");
        SplitFares x = new SplitFares();
        int[] due = {-1, 0, -1, 0, -6, 0, -6, 0, -6, 0, -2, 0, -1, 0, -2, 0, -1, 0, -3, 0, -1, 0, -3, 0, -1, 0, -1, 0};
        for (int i = 0; i < due.length; i++) {
            int told = statusBehind(x, i);
            D.due("call " + i, told < 0 && i != 11 ? told : 0, due[i]);
            D.due("status() behind call " + i, x.status(), due[i]);
        }
    }

    private static void behind(SplitFares x, String call, long told, int due) {
        D.due(call, told, due);
        D.due("status() behind " + call, x.status(), 0);
        noneByOthers(x, call);
        D.due("a call that is REFUSED", x.image(2), -1);
        D.due("status() behind it", x.status(), -1);
    }

    /** By -1 the calls of image(2) were REFUSED, by another number none was. */
    private static void noneByOthers(SplitFares x, String call) {
        D.due("count(9) behind " + call, x.count(9), 0);
        D.due("count(10) behind " + call, x.count(10), 0);
        D.due("count(11) behind " + call, x.count(11), 0);
        D.due("count(12) behind " + call, x.count(12), 0);
    }

    private static void statusOfMore() {
        D.promise("43: 0 behind a call that is not REFUSED, whatever it tells");
        SplitFares x = new SplitFares();
        behind(x, "train()", x.train(3, 1, 8), 0);
        behind(x, "another train()", x.train(3, 0, 9), 1);
        Due.tape(x, "\u0007\u0001\u0008\u0003\u0001\u0009");
        behind(x, "row()", x.row(), 2);
        behind(x, "law()", Due.law(x, "costs 1"), 0);
        behind(x, "another law()", Due.law(x, "costs 10"), 1);
        behind(x, "a third law()", Due.law(x, "costs 10"), 2);
        behind(x, "force()", x.force(2), -1);
        behind(x, "another force()", x.force(1), 2);
        behind(x, "a third force()", x.force(-1), 1);
        behind(x, "terms()", x.terms(0, 998), 0);
        behind(x, "another terms()", x.terms(0, 5), 998);
        behind(x, "terms() of CHECKS", x.terms(1, 2), 1);
        behind(x, "told()", x.told(1, 10), 1);
        behind(x, "another told()", x.told(1, 20), 2);
        behind(x, "buy()", x.buy(1, 0, 1), 985);
        behind(x, "buy()", x.buy(0, 1, 2), 975);
        behind(x, "save()", x.save(7), 982);
        behind(x, "ride() by two", x.ride(2, 2), 2);
        behind(x, "pass() of a HALF", x.pass(), 1);
        behind(x, "pass() of none", x.pass(), 0);
        behind(x, "undo() of a DAY", x.undo(), 3);
        behind(x, "undo() of a DAY", x.undo(), 3);
        behind(x, "undo() of a ride", x.undo(), 1);
        behind(x, "undo() of pence put by", x.undo(), 2);
        behind(x, "undo() of a SINGLE", x.undo(), 0);
        behind(x, "orders() of three", Due.orders(x, "pass times 3"), 3);
        behind(x, "orders() of none", Due.orders(x, "pass if 1 = 2"), 0);
        behind(x, "image()", x.image(1), 0);
        behind(x, "back()", x.back(1), 0);
        D.due("count(8)", x.count(8), 29);
        SplitFares y = Offices.trains(1);
        behind(y, "months()", y.months(0, 3), 1);
        behind(y, "months() of none used", y.months(0, 1), 0);
    }

    /** One call after another: REFUSED, then not. */
    private static int statusBehind(SplitFares x, int i) {
        switch (i) {
            case 0: return x.train(0, 0, 0);
            case 1: return x.train(255, 1, 0);
            case 2: return x.terms(0, 1000);
            case 3: return x.terms(0, 999);
            case 4: return x.row();
            case 5: Due.tape(x, "x"); return x.row();
            case 6: return x.law();
            case 7: return Due.law(x, "costs 0");
            case 8: return x.orders();
            case 9: return Due.orders(x, "save 1");
            case 10: return x.force(1);
            case 11: return x.force(0);
            case 12: return x.buy(0, 0, 0);
            case 13: return x.buy(0, 0, 7);
            case 14: return x.ride(1, 7);
            case 15: return x.ride(0, 7);
            case 16: return x.save(0);
            case 17: return x.save(1);
            case 18: return x.pass();
            case 19: x.terms(0, 998); return x.pass();
            case 20: return x.told(8, 0);
            case 21: return x.told(0, 0);
            case 22: x.undo(); return x.undo();
            case 23: x.save(1); return x.undo() - 2;
            case 24: return x.months(0, 0);
            case 25: return x.months(0, 1);
            case 26: return x.back(2);
            default: return x.image(1);
        }
    }
}
