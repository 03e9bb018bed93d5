/** Promises 1 to 10, 16, 32, 33 and 40 to 43: what is kept, and how calls are REFUSED. */
public final class StatePromisesTest {
    private static final Due D = new Due("StatePromisesTest");

    public static void main(String[] args) {
        newObject();
        train();
        of();
        price();
        isBarred();
        held();
        terms();
        feedAndEnd();
        row();
        force();
        toldAndForget();
        images();
        imagesKeepLaws();
        count();
        status();
        D.end();
    }

    private static void newObject() {
        D.promise("1");
        SplitFares x = new SplitFares();
        int[] due = {0, 0, 1000, 0, 0, 0, 0, 0, 0, 0, 0, 0, 0, -1, 0, 1, 0};
        for (int what = 0; what < due.length; what++) {
            D.due("count(" + what + ")", x.count(what), due[what]);
        }
        D.due("of(0, 0)", x.of(0, 0), -1);
        D.due("status()", x.status(), 0);
        D.due("delays()", x.delays(), 0);
        D.due("fault()", x.fault(), -1);
        D.due("stopped()", x.stopped(), -1);
        D.due("drawn(0)", x.drawn(0), -1);
        D.due("purseEnd()", x.purseEnd(), 1);
        for (int sort = 0; sort < 3; sort++) {
            for (int leg = 0; leg < 64; leg++) {
                D.due("held", x.held(sort, leg / 8, leg % 8), leg / 8 == leg % 8 ? -1 : 0);
            }
        }
        D.due("NONE", SplitFares.NONE, -1);
    }

    private static void train() {
        D.promise("2");
        SplitFares x = new SplitFares();
        int[][] bad = {{-1, 0, 0}, {256, 0, 0}, {257, 0, 0}, {0, 0, 0}, {1, 0, 0}, {128, 1, 5}, {3, -1, 0}, {3, 2, 0}, {3, 0, -1}, {3, 0, 24}};
        for (int[] b : bad) {
            D.due("train", x.train(b[0], b[1], b[2]), -1);
        }
        D.due("count(0)", x.count(0), 0);
        D.due("count(8)", x.count(8), bad.length);
        x.save(5);
        D.due("train(3, 0, 0)", x.train(3, 0, 0), 0);
        D.due("train(255, 1, 23)", x.train(255, 1, 23), 1);
        D.due("train(129, 0, 12)", x.train(129, 0, 12), 2);
        D.due("train(3, 0, 0) again", x.train(3, 0, 0), 3);
        D.due("train 4", x.train(192, 1, 1), 4);
        D.due("train 5", x.train(5, 1, 1), 5);
        D.due("a seventh", x.train(5, 1, 1), -5);
        D.due("status()", x.status(), -5);
        D.due("a bad seventh", x.train(4, 1, 1), -1);
        D.due("count(0)", x.count(0), 6);
        D.due("undo() behind train()", x.undo(), 2);
    }

    private static void of() {
        D.promise("3");
        SplitFares x = new SplitFares();
        x.train(255, 1, 23);
        x.train(129, 0, 0);
        D.due("of(0, 0)", x.of(0, 0), 255);
        D.due("of(0, 1)", x.of(0, 1), 1);
        D.due("of(0, 2)", x.of(0, 2), 23);
        D.due("of(1, 0)", x.of(1, 0), 129);
        D.due("of(1, 1)", x.of(1, 1), 0);
        D.due("of(1, 2)", x.of(1, 2), 0);
        D.due("of(1, 3)", x.of(1, 3), -1);
        D.due("of(1, -1)", x.of(1, -1), -1);
        D.due("of(2, 0)", x.of(2, 0), -1);
        D.due("of(-1, 0)", x.of(-1, 0), -1);
    }

    private static void price() {
        D.promise("4");
        SplitFares x = new SplitFares();
        D.due("price(0, 0, 7)", x.price(0, 0, 7), 70);
        D.due("price(0, 7, 0)", x.price(0, 7, 0), 70);
        D.due("price(1, 0, 7)", x.price(1, 0, 7), 105);
        D.due("price(1, 3, 2)", x.price(1, 3, 2), 15);
        D.due("price(2, 3, 2)", x.price(2, 3, 2), -1);
        D.due("price(-1, 3, 2)", x.price(-1, 3, 2), -1);
        D.due("price(0, 3, 3)", x.price(0, 3, 3), -1);
        D.due("price(0, -1, 3)", x.price(0, -1, 3), -1);
        D.due("price(0, 3, 8)", x.price(0, 3, 8), -1);
        // the last that holds tells; hour is -1
        Due.force(x, "costs 7; costs hour + 4 if from = 1; costs 1000 * 10 if to = 5; costs 0 - 1 if to = 6; costs 1 / [from - 2] if from < 3");
        D.due("price(0, 3, 4)", x.price(0, 3, 4), 7);
        D.due("price(0, 0, 4): 1 / -2 is 0", x.price(0, 0, 4), 0);
        D.due("price(0, 1, 4): 1 / -1 is cut to 0", x.price(0, 1, 4), 0);
        D.due("price(0, 2, 4): broken, the one ahead", x.price(0, 2, 4), 7);
        D.due("price(0, 3, 5): 9,999 at most", x.price(0, 3, 5), 9999);
        D.due("price(1, 3, 6): 0 at least", x.price(1, 3, 6), 0);
        Due.force(x, "costs hour + 4 if from = 1");
        D.due("price(0, 1, 4)", x.price(0, 1, 4), 3);
        D.due("price(1, 0, 4) without", x.price(1, 0, 4), 60);
        Due.force(x, "costs day * 10 + mood if return = 1; costs from * 100 + to * 10 + far if return = 0");
        x.terms(0, 12);
        x.terms(2, 9);
        D.due("price(1, 0, 4)", x.price(1, 0, 4), 129);
        D.due("price(0, 6, 2)", x.price(0, 6, 2), 624);
        x.force(-1);
        D.due("price(0, 6, 2)", x.price(0, 6, 2), 40);
        Due.force(x, "bars");
        D.due("bars costs nothing", x.price(0, 6, 2), 40);
    }

    private static void isBarred() {
        D.promise("5");
        SplitFares x = new SplitFares();
        x.train(3, 1, 8);
        x.train(3, 0, 9);
        D.due("isBarred(0, 0, 0, 1)", x.isBarred(0, 0, 0, 1), 0);
        Due.force(x, "bars if hour < 9 and return = 0; bars if from = 7; costs 5; bars if far / [to - 6] > 0 and to = 6");
        D.due("isBarred(0, 0, 0, 1)", x.isBarred(0, 0, 0, 1), 1);
        D.due("isBarred(1, 0, 0, 1)", x.isBarred(1, 0, 0, 1), 0);
        D.due("isBarred(0, 1, 0, 1)", x.isBarred(0, 1, 0, 1), 0);
        D.due("isBarred(1, 1, 7, 1), where it does not stop", x.isBarred(1, 1, 7, 1), 1);
        D.due("isBarred(1, 1, 0, 6), broken", x.isBarred(1, 1, 0, 6), 0);
        D.due("isBarred(2, 0, 0, 1)", x.isBarred(2, 0, 0, 1), -1);
        D.due("isBarred(-1, 0, 0, 1)", x.isBarred(-1, 0, 0, 1), -1);
        D.due("isBarred(0, 2, 0, 1)", x.isBarred(0, 2, 0, 1), -1);
        D.due("isBarred(0, -1, 0, 1)", x.isBarred(0, -1, 0, 1), -1);
        D.due("isBarred(0, 0, 1, 1)", x.isBarred(0, 0, 1, 1), -1);
        D.due("isBarred(0, 0, 8, 1)", x.isBarred(0, 0, 8, 1), -1);
        D.due("isBarred(0, 0, 1, -1)", x.isBarred(0, 0, 1, -1), -1);
        Due.force(x, "bars");
        D.due("bars without if", x.isBarred(0, 1, 0, 1), 1);
    }

    private static void held() {
        D.promise("6");
        SplitFares x = new SplitFares();
        x.buy(0, 2, 5);
        x.buy(0, 2, 5);
        x.buy(1, 5, 2);
        D.due("held(0, 2, 5)", x.held(0, 2, 5), 2);
        D.due("held(1, 2, 5)", x.held(1, 2, 5), 0);
        D.due("held(1, 5, 2)", x.held(1, 5, 2), 1);
        D.due("held(2, 5, 2)", x.held(2, 5, 2), 0);
        D.due("held(3, 5, 2)", x.held(3, 5, 2), -1);
        D.due("held(-1, 5, 2)", x.held(-1, 5, 2), -1);
        D.due("held(0, 5, 5)", x.held(0, 5, 5), -1);
        D.due("held(0, 8, 5)", x.held(0, 8, 5), -1);
        D.due("held(0, 5, -1)", x.held(0, 5, -1), -1);
    }

    private static void terms() {
        D.promise("7");
        SplitFares x = new SplitFares();
        D.due("terms(0, 999)", x.terms(0, 999), 0);
        D.due("terms(0, 0)", x.terms(0, 0), 999);
        D.due("terms(1, 10)", x.terms(1, 10), 1);
        D.due("terms(1, 0)", x.terms(1, 0), 10);
        D.due("terms(2, 9)", x.terms(2, 9), 0);
        D.due("terms(2, 3)", x.terms(2, 3), 9);
        x.save(1);
        int[][] bad = {{0, 1000}, {0, -1}, {1, 11}, {1, -1}, {2, 10}, {2, -1}, {3, 0}, {-1, 0}};
        for (int[] b : bad) {
            D.due("terms", x.terms(b[0], b[1]), -1);
        }
        D.due("a refused terms() leaves what can be undone", x.count(6), 1);
        D.due("count(14)", x.count(14), 0);
        D.due("count(15)", x.count(15), 0);
        D.due("count(16)", x.count(16), 3);
        D.due("terms(2, 3) as it is", x.terms(2, 3), 3);
        D.due("nothing can be undone behind it", x.undo(), -3);
        // a RETURN used, its HALF is held on another DAY told by terms(): no DAY has passed
        x.train(3, 1, 0);
        x.buy(1, 0, 1);
        x.ride(0, 1);
        x.terms(0, 7);
        D.due("held(2, 1, 0)", x.held(2, 1, 0), 1);
    }

    private static void feedAndEnd() {
        D.promise("8, 9");
        SplitFares x = new SplitFares();
        for (int n = 20; n <= 400; n += 20) {
            D.due("feed", x.feed(0, 0, 0, 0, 0), n);
        }
        D.due("feed", x.feed(0, 0, 0, 0, 0), -1);
        D.due("end(401)", x.end(401), -1);
        D.due("end(-1)", x.end(-1), -1);
        D.due("end(400)", x.end(400), 400);
        D.due("end(381)", x.end(381), 381);
        D.due("feed beyond 400", x.feed(0, 0, 0, 0, 0), -1);
        D.due("count(7)", x.count(7), 381);
        D.due("end(382)", x.end(382), -1);
        D.due("end(380)", x.end(380), 380);
        D.due("feed", x.feed(0, 0, 0, 0, 0), 400);
        D.due("end(0)", x.end(0), 0);
        D.due("end(1)", x.end(1), -1);
        D.due("status()", x.status(), 0);
        // 0x03 01 17, 0xff 00 05, 0x80 01 ...: the highest byte first, a to e
        D.due("feed", x.feed(0x030117ff, 0x00058100, 0x0006010f, 0xf0000bc0, 0x01030000), 20);
        D.due("end(18)", x.end(18), 18);
        D.due("row()", x.row(), 6);
        int[][] trains = {{3, 1, 23}, {255, 0, 5}, {129, 0, 0}, {6, 1, 15}, {240, 0, 11}, {192, 1, 3}};
        for (int t = 0; t < trains.length; t++) {
            for (int what = 0; what < 3; what++) {
                D.due("of(" + t + ", " + what + ")", x.of(t, what), trains[t][what]);
            }
        }
        D.due("delays()", x.delays(), 0);
    }

    private static void row() {
        D.promise("10, 11");
        SplitFares x = new SplitFares();
        D.due("row()", x.row(), -6);
        D.due("delays()", x.delays(), 0);
        x.save(1);
        Due.tape(x, "\u0003\u0001\u0017\u0003\u0002\u0000\u0001\u0000\u0000\u0003\u0000\u0018\u00ff\u0000\u0000\u0003\u0001");
        D.due("row()", x.row(), 2);
        D.due("delays()", x.delays(), 4);
        D.due("count(7)", x.count(7), 0);
        D.due("of(1, 0)", x.of(1, 0), 255);
        D.due("row()", x.row(), -6);
        D.due("delays() behind a refused one", x.delays(), 4);
        Due.tape(x, "\u0003");
        D.due("row()", x.row(), 0);
        D.due("delays()", x.delays(), 1);
        D.due("status()", x.status(), 0);
        Due.tape(x, "\u0003\u0001\u0000".repeat(6));
        D.due("row() without room for two", x.row(), 4);
        D.due("delays()", x.delays(), 2);
        D.due("count(0)", x.count(0), 6);
        D.due("it leaves what can be undone", x.undo(), 2);
    }

    private static void force() {
        D.promise("16");
        SplitFares x = new SplitFares();
        D.due("force(0)", x.force(0), -2);
        D.due("force(-1)", x.force(-1), -1);
        D.due("status()", x.status(), 0);
        Due.law(x, "costs 5");
        Due.law(x, "costs 6");
        D.due("a law is not in force by itself", x.count(13), -1);
        D.due("force(1)", x.force(1), -1);
        D.due("count(13)", x.count(13), 1);
        D.due("price", x.price(0, 0, 1), 6);
        D.due("force(0)", x.force(0), 1);
        D.due("price", x.price(0, 0, 1), 5);
        D.due("force(2)", x.force(2), -2);
        D.due("force(-2)", x.force(-2), -2);
        D.due("count(13)", x.count(13), 0);
        x.save(1);
        D.due("force(-1)", x.force(-1), 0);
        D.due("status()", x.status(), 0);
        D.due("price", x.price(0, 0, 1), 10);
        D.due("undo()", x.undo(), 2);
        D.due("count(9)", x.count(9), 3);
    }

    private static void toldAndForget() {
        D.promise("32, 33");
        SplitFares x = new SplitFares();
        D.due("forget()", x.forget(), 0);
        int[][] bad = {{-1, 0}, {8, 0}, {0, -2}, {0, 100000}};
        for (int[] b : bad) {
            D.due("told", x.told(b[0], b[1]), -1);
        }
        x.save(1);
        D.due("told(0, -1)", x.told(0, -1), 1);
        D.due("told(7, 99999)", x.told(7, 99999), 2);
        for (int n = 3; n <= 6; n++) {
            D.due("told(3, 0)", x.told(3, 0), n);
        }
        D.due("a seventh", x.told(3, 0), -5);
        D.due("a bad seventh", x.told(8, 0), -1);
        D.due("count(4)", x.count(4), 6);
        D.due("forget()", x.forget(), 6);
        D.due("count(4)", x.count(4), 0);
        D.due("forget()", x.forget(), 0);
        D.due("told(0, 0)", x.told(0, 0), 1);
        D.due("it leaves what can be undone", x.undo(), 2);
    }

    private static void images() {
        D.promise("40, 41");
        SplitFares x = new SplitFares();
        D.due("back(0)", x.back(0), -2);
        D.due("image(2)", x.image(2), -1);
        D.due("image(-1)", x.image(-1), -1);
        D.due("back(2)", x.back(2), -1);
        D.due("back(-1)", x.back(-1), -1);
        x.train(7, 1, 5);
        x.buy(0, 0, 1);
        x.ride(0, 1);
        x.buy(1, 1, 2);
        x.told(2, 10);
        x.terms(0, 3);
        x.terms(1, 4);
        x.terms(2, 5);
        x.save(7);
        D.due("image(0)", x.image(0), 0);
        D.due("an image leaves what can be undone", x.count(6), 1);
        x.train(7, 0, 6);
        x.ride(0, 2);
        x.forget();
        x.told(1, 1);
        x.told(1, 1);
        x.terms(0, 30);
        x.terms(1, 3);
        x.terms(2, 2);
        Due.force(x, "costs 2 * far");
        x.save(100);
        x.months(77, 9);
        int drawn = x.drawn(0);
        D.due("image(1)", x.image(1), 0);
        Due.tape(x, "bars");
        D.due("back(0)", x.back(0), 0);
        int[] due = {1, 1, 982, 1, 1, 0, 0, 4};
        for (int what = 0; what < due.length; what++) {
            D.due("count(" + what + ")", x.count(what), due[what]);
        }
        D.due("count(8): images keep no refusals", x.count(8), 4);
        D.due("count(13)", x.count(13), -1);
        D.due("count(14)", x.count(14), 3);
        D.due("count(15)", x.count(15), 4);
        D.due("count(16)", x.count(16), 5);
        D.due("held(1, 1, 2)", x.held(1, 1, 2), 1);
        D.due("held(2, 2, 1)", x.held(2, 2, 1), 0);
        D.due("undo()", x.undo(), -3);
        D.due("the latest MONTHS stay", x.drawn(0), drawn);
        D.due("canBe() by what was told then: 10 from 1 to 2", x.canBe(), 1);
        D.due("back(1)", x.back(1), 0);
        D.due("count(0)", x.count(0), 2);
        D.due("count(1)", x.count(1), 2);
        D.due("count(2)", x.count(2), 1082);
        D.due("count(4)", x.count(4), 2);
        D.due("count(13)", x.count(13), 0);
        D.due("price", x.price(0, 0, 5), 10);
        D.due("held(2, 2, 1)", x.held(2, 2, 1), 1);
        D.due("of(1, 2)", x.of(1, 2), 6);
        x.save(1);
        D.due("back(0): images stay", x.back(0), 0);
        D.due("count(2)", x.count(2), 982);
        x.save(9);
        D.due("image(0) again", x.image(0), 0);
        x.save(1);
        x.back(0);
        D.due("count(2)", x.count(2), 991);
    }

    /** Other LAWS, TRAINS, TOLD that come behind back() change nothing of what an IMAGE keeps. */
    private static void imagesKeepLaws() {
        D.promise("40, 41");
        SplitFares x = new SplitFares();
        x.image(0);
        Due.force(x, "costs 1");
        x.train(3, 1, 1);
        x.told(1, 1);
        x.image(1);
        x.back(0);
        D.due("law 0", Due.law(x, "costs 2"), 0);
        x.force(0);
        x.train(12, 0, 2);
        x.told(2, 2);
        D.due("price", x.price(0, 0, 5), 2);
        x.back(1);
        D.due("price", x.price(0, 0, 5), 1);
        D.due("of(0, 0)", x.of(0, 0), 3);
        D.due("canBe()", x.canBe(), 1);
        D.due("compare(0, 0, 1)", x.compare(0, 0, 1), 1);
        D.due("compare(1, 0, 1)", x.compare(1, 0, 1), -1);
        Due.tape(x, "pass");
        x.back(0);
        D.due("the tape stays", x.count(7), 4);
        D.due("orders()", x.orders(), 1);
        Due.tape(x, "bars 1");
        x.law();
        x.back(0);
        D.due("fault() stays", x.fault(), 5);
        Due.orders(x, "pass; save 0");
        x.back(0);
        D.due("stopped() stays", x.stopped(), 1);
        Due.tape(x, "x");
        x.row();
        x.back(1);
        D.due("delays() stays", x.delays(), 1);
    }

    private static void count() {
        D.promise("42");
        SplitFares x = new SplitFares();
        D.due("count(17)", x.count(17), -1);
        D.due("count(-1)", x.count(-1), -1);
        x.train(0, 0, 0);
        x.ride(0, 0);
        x.undo();
        x.row();
        x.law();
        D.due("count(8)", x.count(8), 1);
        D.due("count(9)", x.count(9), 1);
        D.due("count(10)", x.count(10), 1);
        D.due("count(11)", x.count(11), 0);
        D.due("count(12)", x.count(12), 2);
        for (int i = 0; i < 7; i++) {
            x.told(0, 0);
        }
        D.due("count(11)", x.count(11), 1);
        D.due("NONE is no refusal", x.price(9, 9, 9) + x.end(5) + x.of(7, 7) + x.force(-1), -4);
        D.due("count(8)", x.count(8), 1);
        x.buy(1, 2, 3);
        x.buy(0, 2, 3);
        D.due("count(3)", x.count(3), 2);
        D.due("count(6)", x.count(6), 2);
        x.feed(1, 2, 3, 4, 5);
        D.due("count(7)", x.count(7), 20);
    }

    private static void status() {
        D.promise("43");
        SplitFares x = new SplitFares();
        D.due("status()", x.status(), 0);
        D.due("train", x.train(1, 1, 1), -1);
        D.due("status()", x.status(), -1);
        D.due("asking leaves it", x.price(0, 0, 0) + x.count(1) + x.forget() + x.end(0) + x.feed(0, 0, 0, 0, 0) + x.canBe(), 19);
        D.due("status()", x.status(), -1);
        D.due("image(0)", x.image(0), 0);
        D.due("status()", x.status(), 0);
        D.due("ride(0, 1)", x.ride(0, 1), -2);
        D.due("status()", x.status(), -2);
        D.due("save(1)", x.save(1), 1001);
        D.due("status()", x.status(), 0);
        D.due("months(0, 1)", x.months(0, 1), -3);
        D.due("status()", x.status(), -3);
        D.due("undo()", x.undo(), 2);
        D.due("status()", x.status(), 0);
        D.due("law()", x.law(), -6);
        D.due("status()", x.status(), -6);
        D.due("pass()", x.pass(), 0);
        D.due("status()", x.status(), 0);
        D.due("orders()", x.orders(), -6);
        D.due("status()", x.status(), -6);
        D.due("buy(0, 0, 1)", x.buy(0, 0, 1), 990);
        D.due("status()", x.status(), 0);
        D.due("back(1)", x.back(1), -2);
        D.due("status()", x.status(), -2);
        D.due("back(0)", x.back(0), 0);
        D.due("status()", x.status(), 0);
        D.due("row()", x.row(), -6);
        D.due("status()", x.status(), -6);
        D.due("terms(0, 0)", x.terms(0, 0), 0);
        D.due("status()", x.status(), 0);
        D.due("told(0, -2)", x.told(0, -2), -1);
        D.due("status()", x.status(), -1);
        D.due("force(-1)", x.force(-1), -1);
        D.due("status()", x.status(), 0);
    }
}
