/** Bounds that Terms II name: the TAPE, TOKENS, both languages, BROKEN SUMS, what a TICKET COSTS, how ORDERS are run. */
public final class BoundsOfTextsTest {
    private static final Due D = new Due("BoundsOfTextsTest");
    private static final String BILLION = "1000 * 1000 * 1000";

    public static void main(String[] args) {
        tape();
        tapeOfBytes();
        fullTape();
        blanksAlone();
        tokens();
        singleBytes();
        clauses();
        numbers();
        parts();
        partsInOrders();
        brackets();
        bracketsBesideOthers();
        times();
        timesAndDays();
        trainOfStops();
        wordsOfLaws();
        wordsOfOrders();
        shorterBehindLonger();
        faults();
        faultIsKept();
        sumsToABillion();
        stepsBeyondABillion();
        dividedByNothing();
        cutTowardsNothing();
        brokenTests();
        laws();
        costs();
        without();
        lastThatHolds();
        bars();
        hour();
        orderWords();
        orderStations();
        ordersFromTheLeft();
        stopped();
        D.end();
    }

    // ---- the TAPE

    private static void tape() {
        D.promise("8: at most 400 bytes");
        SplitFares x = new SplitFares();
        for (int n = 1; n <= 20; n++) {
            D.due("feed", x.feed(1, 2, 3, 4, 5), 20 * n);
            D.due("count(7)", x.count(7), 20 * n);
        }
        D.due("a 401st", x.feed(1, 2, 3, 4, 5), -1);
        D.due("count(7)", x.count(7), 400);
        D.due("status()", x.status(), 0);
        for (int n = 399; n > 380; n--) {
            D.due("end", x.end(n), n);
            D.due("twenty to " + n, x.feed(1, 2, 3, 4, 5), -1);
            D.due("count(7)", x.count(7), n);
        }
        D.due("end", x.end(380), 380);
        D.due("twenty to 380", x.feed(1, 2, 3, 4, 5), 400);
        D.promise("9: so many, below 0");
        int[] no = {Integer.MIN_VALUE, Integer.MIN_VALUE + 1, -400, -1, 401, 402, 656, 65_536, Integer.MAX_VALUE};
        for (int n : no) {
            D.due("end(" + n + ")", x.end(n), -1);
            D.due("count(7)", x.count(7), 400);
        }
        D.due("end(400), as it is", x.end(400), 400);
        D.due("end(1)", x.end(1), 1);
        D.due("end(2)", x.end(2), -1);
        D.due("end(1)", x.end(1), 1);
        D.due("end(0)", x.end(0), 0);
        D.due("end(0) of nothing", x.end(0), 0);
        D.due("end(1) of nothing", x.end(1), -1);
        D.due("status()", x.status(), 0);
        D.due("count(8)", x.count(8), 0);
    }

    private static void tapeOfBytes() {
        D.promise("8: four of each number, the highest first; bytes 0 .. 255");
        SplitFares x = new SplitFares();
        x.feed(0xff000301, 0x17ffff00, 0x00ff0116, 0x80010081, 0x0115ffff);
        x.end(18);
        // ff 00 03 | 01 17 ff | ff 00 00 | ff 01 16 | 80 01 00 | 81 01 15
        D.due("row()", x.row(), 4);
        D.due("delays()", x.delays(), 2);
        int[][] due = {{255, 0, 3}, {255, 0, 0}, {255, 1, 22}, {129, 1, 21}};
        for (int t = 0; t < due.length; t++) {
            for (int what = 0; what < 3; what++) {
                D.due("of(" + t + ", " + what + ")", x.of(t, what), due[t][what]);
            }
        }
        D.promise("9: what is behind the first n bytes is gone");
        Due.tape(x, "pass;pass;pass");
        x.end(9);
        x.end(10);
        D.due("two CLAUSES", x.orders(), 2);
    }

    private static void fullTape() {
        D.promise("8, 12, 13: a TEXT of 400 bytes");
        SplitFares x = new SplitFares();
        D.due("the last byte is read", Due.law(x, "costs" + " ".repeat(394) + "7"), 0);
        D.due("price", x.compare(0, 0, 1), 7);
        D.due("none too few", Due.law(x, "costs" + " ".repeat(395)), -6);
        D.due("fault() at the end", x.fault(), 400);
        D.due("the last one can't go on", Due.law(x, "bars" + " ".repeat(395) + "7"), -6);
        D.due("fault()", x.fault(), 399);
        D.due("the first one can't go on", Due.law(x, "x".repeat(400)), -6);
        D.due("fault()", x.fault(), 0);
        D.due("ORDERS", Due.orders(x, " ".repeat(396) + "pass"), 1);
        D.due("ORDERS", Due.orders(x, " ".repeat(394) + "pass;"), -6);
        D.due("fault()", x.fault(), 399);
        D.due("a bracket", Due.law(x, "costs [1" + " ".repeat(391) + "]"), 1);
        D.due("no bracket", Due.law(x, "costs [1" + " ".repeat(392)), -6);
        D.due("fault()", x.fault(), 400);
    }

    private static void blanksAlone() {
        D.promise("12, 13: blanks alone: FAULT at the end");
        for (int n = 0; n <= 400; n += n < 3 || n > 396 ? 1 : 99) {
            SplitFares x = new SplitFares();
            D.due("law of " + n + " blanks", Due.law(x, " ".repeat(n)), -6);
            D.due("fault()", x.fault(), n);
            D.due("orders of " + n + " blanks", Due.orders(x, " ".repeat(n)), -6);
            D.due("fault()", x.fault(), n);
            D.due("count(12)", x.count(12), 2);
            D.due("count(5)", x.count(5), 0);
        }
    }

    // ---- TOKENS

    private static void law(String text, int fault) {
        SplitFares x = new SplitFares();
        D.due("law \"" + text + "\"", Due.law(x, text), fault < 0 ? 0 : -6);
        D.due("fault() of \"" + text + "\"", x.fault(), fault);
        D.due("count(5)", x.count(5), fault < 0 ? 1 : 0);
        D.due("count(12)", x.count(12), fault < 0 ? 0 : 1);
        D.due("count(7)", x.count(7), 0);
        D.due("status()", x.status(), fault < 0 ? 0 : -6);
    }

    /** Such that they can be, if they have no FAULT. */
    private static void orders(String text, int fault, int done) {
        SplitFares x = Offices.line();
        D.due("orders \"" + text + "\"", Due.orders(x, text), fault < 0 ? done : -6);
        D.due("fault() of \"" + text + "\"", x.fault(), fault);
        D.due("stopped()", x.stopped(), -1);
        D.due("count(6)", x.count(6), fault < 0 ? Math.min(16, done) : 0);
        D.due("count(12)", x.count(12), fault < 0 ? 0 : 1);
        D.due("count(7)", x.count(7), 0);
        D.due("status()", x.status(), fault < 0 ? 0 : -6);
    }

    private static void tokens() {
        D.promise("II: longest rows of letters, of digits");
        law("bars", -1);
        law("barsz", 0);
        law("bar s", 0);
        law("zbars", 0);
        law("costs5", -1);
        law("costs5if1=1", -1);
        law("costsfar", 0);
        law("costs far", -1);
        law("costs far+far", -1);
        law("costs 5 5", 8);
        law("costs 55", -1);
        law("costs 5far", 7);
        law("costs far5", 9);
        law("costs farif 1=1", 6);
        law("costs 5if 1=1", -1);
        law("bars;bars", -1);
        law("bars ; bars", -1);
        law("  bars  ;  bars  ", -1);
        orders("pass", -1, 1);
        orders("passtimes2", 0, 0);
        orders("pass times2", -1, 2);
        orders("pass times 2if 1=1", -1, 2);
        orders("save stops0", -1, 1);
        orders("save stops0 0", 12, 0);
        orders("save stops00", -1, 1);
        orders("single0to7", -1, 1);
        orders("single0to 7", -1, 1);
        orders("single 0 to7", -1, 1);
        orders("singleat to 7", 0, 0);
    }

    private static void singleBytes() {
        D.promise("II: letters a .. z, digits 0 .. 9, blanks 32, single other bytes");
        for (int b = 0; b < 256; b++) {
            char sign = (char) b;
            int behindWord = b >= 'a' && b <= 'z' ? 0 : b == ' ' ? -1 : b == ';' ? 5 : 4;
            law("bars" + sign, behindWord);
            boolean digit = b >= '0' && b <= '9';
            boolean goesOn = "+-*/%;".indexOf(b) >= 0;
            law("costs 5" + sign, b == ' ' || digit ? -1 : goesOn ? 8 : 7);
            if (b != ' ') {
                law(sign + "bars", 0);
                law("bars " + sign, b == ';' ? 6 : 5);
            }
        }
        law("costs 1 ++ 2", 9);
        law("costs 1 + 2 ;; bars", 13);
        law("bars if 1 << 2", 11);
        law("bars if 1 == 2", 11);
        law("bars if ((1=1)) )", 16);
    }

    // ---- 12 CLAUSES

    private static void clauses() {
        D.promise("II: 12 CLAUSES at most, FAULT at the 13th's first TOKEN");
        for (int n = 1; n <= 16; n++) {
            law("bars" + ";bars".repeat(n - 1), n <= 12 ? -1 : 60);
            law("bars" + " ;  bars".repeat(n - 1), n <= 12 ? -1 : 4 + 11 * 8 + 4);
            law("costs 5" + ";costs 5".repeat(n - 1), n <= 12 ? -1 : 96);
            orders("pass" + ";pass".repeat(n - 1), n <= 12 ? -1 : 60, n);
            orders("pass" + "; pass".repeat(n - 1), n <= 12 ? -1 : 72, n);
            law("bars" + ";bars".repeat(n - 1) + ";", n <= 11 ? n * 5 : 60);
            law("bars" + ";bars".repeat(n - 1) + ";5", n <= 11 ? n * 5 : 60);
        }
        law("bars" + ";bars".repeat(11) + ";  ", 62);
        law("bars" + ";bars".repeat(11) + "  x", 61);
        law("bars" + ";bars".repeat(11) + ";;", 60);
        orders("pass" + ";pass".repeat(11) + ";  ", 62, 0);
        D.promise("II: the twelfth counts as any other");
        SplitFares x = new SplitFares();
        Due.force(x, "costs 1" + ";bars if 1 = 2".repeat(10) + ";costs 12");
        D.due("price", x.price(0, 0, 1), 12);
        D.due("ORDERS", Due.orders(x, "pass if 1 = 2" + ";pass if 1 = 2".repeat(10) + ";save 7"), 1);
        D.due("count(2)", x.count(2), 1007);
    }

    // ---- NUMBERS to 1,000

    private static void numbers() {
        D.promise("II: a NUMBER to 1,000");
        law("costs 0", -1);
        law("costs 999", -1);
        law("costs 1000", -1);
        law("costs 1001", 6);
        law("costs 00", -1);
        law("costs 0001000", -1);
        law("costs 0001001", 6);
        law("costs 9999", 6);
        law("costs 10000", 6);
        law("costs 1 + 1001", 10);
        law("costs 1001 + 1", 6);
        law("bars if 1001 = 1", 8);
        law("bars if 1 = 1001", 12);
        law("costs [1001]", 7);
        // such as come round to a good one
        law("costs 65536", 6);
        law("costs 2147483648", 6);
        law("costs 4294967296", 6);
        law("costs 4294967301", 6);
        law("costs 18446744073709551616", 6);
        law("costs 18446744073709551621", 6);
        law("costs 1" + "0".repeat(64), 6);
        law("costs " + "0".repeat(390) + "1000", -1);
        law("costs " + "0".repeat(390) + "1001", 6);
        orders("save 1000", -1, 1);
        orders("save 1001", 5, 0);
        orders("single 0 to 1001", 12, 0);
        SplitFares x = new SplitFares();
        Due.force(x, "costs 1000");
        D.due("1000", x.price(0, 0, 1), 1000);
        Due.force(x, "costs 0");
        D.due("0", x.price(0, 0, 1), 0);
        Due.force(x, "costs 0007");
        D.due("0007", x.price(0, 0, 1), 7);
    }

    // ---- 50 PARTS

    private static void parts() {
        D.promise("II: 50 PARTS that are NUMBERS and words, FAULT at the 51st");
        for (int n = 49; n <= 53; n++) {
            law("costs 1" + "+1".repeat(n - 1), n <= 50 ? -1 : 106);
            law("costs to" + "+to".repeat(n - 1), n <= 50 ? -1 : 8 + 49 * 3 + 1);
            law("costs [1]" + "+[1]".repeat(n - 1), n <= 50 ? -1 : 9 + 49 * 4 + 2);
            law("costs 1" + "*1".repeat(n - 2) + " if 1=1", n == 49 ? -1 : n <= 51 ? 109 : 106);
        }
        law("costs 1" + "+1".repeat(46) + " if 1<1", -1);
        law("costs 1" + "+1".repeat(47) + " if 1<1", -1);
        law("costs 1" + "+1".repeat(48) + " if 1<1", 7 + 96 + 6);
        law("bars if 1=1" + " or 1=1".repeat(24), -1);
        law("bars if 1=1" + " or 1=1".repeat(25), 11 + 24 * 7 + 4);
        law("bars if (1=1)" + "or(1=1)".repeat(24), -1);
        law("bars if (1=1)" + "or(1=1)".repeat(25), 13 + 24 * 7 + 3);
        D.promise("II: in a TEXT, all its CLAUSES together");
        law("costs 1" + "+1".repeat(24) + ";costs 1" + "+1".repeat(24), -1);
        law("costs 1" + "+1".repeat(24) + ";costs 1" + "+1".repeat(25), 55 + 1 + 7 + 48 + 1);
        law("costs 1" + "+1".repeat(49) + ";bars", -1);
        law("costs 1" + "+1".repeat(49) + ";costs 1", 105 + 1 + 6);
        D.promise("II: the 51st, whatever it is");
        law("costs 1" + "+1".repeat(49) + "+1001", 106);
        law("costs 1" + "+1".repeat(49) + "+x", 106);
        law("costs 1" + "+1".repeat(49) + "+", 106);
        law("costs 1" + "+1".repeat(49) + "+[1]", 107);
        D.promise("II: counted anew in each TEXT");
        SplitFares x = new SplitFares();
        for (int n = 0; n < 6; n++) {
            D.due("law", Due.law(x, "costs 1" + "+1".repeat(49)), n);
        }
        D.due("price", x.compare(5, 0, 1), 50);
    }

    private static void partsInOrders() {
        D.promise("II: T, TIMES aside");
        for (int n = 49; n <= 52; n++) {
            orders("save 1" + "+1".repeat(n - 1), n <= 50 ? -1 : 105, 1);
            orders("save 1" + "+at".repeat(n - 1) + " times 20", n <= 50 ? -1 : 6 + 49 * 3 + 1, 20);
        }
        orders("save stops 0" + "+stops 0".repeat(47) + " times 3", -1, 3);
        orders("save 1" + "*1".repeat(47) + "+stops 0+stops 0 times 3", -1, 3);
        orders("save 1" + "*1".repeat(47) + "+stops 0+stops 0+stops 0 times 3", 6 + 94 + 17, 0);
        orders("save 1" + "*1".repeat(47) + "+stops 0+stops 0+1 times 3", 6 + 94 + 17, 0);
        orders("save 1" + "*1".repeat(47) + "+1+1 times 3 if 1=1", 6 + 94 + 16, 0);
        orders("save 1" + "*1".repeat(24) + ";pass times 20;save 1" + "*1".repeat(24), -1, 22);
        orders("save 1" + "*1".repeat(24) + ";pass times 20;save 1" + "*1".repeat(25), 54 + 14 + 7 + 49, 0);
        orders("single 0" + "+0".repeat(24) + " to 1" + "+0".repeat(24), -1, 1);
        orders("single 0" + "+0".repeat(24) + " to 1" + "+0".repeat(25), 8 + 48 + 5 + 49, 0);
    }

    // ---- 8 brackets

    private static void brackets() {
        D.promise("II: 8 brackets of both kinds within one another, FAULT at the 9th");
        for (int n = 0; n <= 12; n++) {
            String open = "[".repeat(n);
            String close = "]".repeat(n);
            law("costs " + open + "1" + close, n <= 8 ? -1 : 14);
            law("bars if " + open + "1" + close + "=1", n <= 8 ? -1 : 16);
            law("bars if 1=" + open + "1" + close, n <= 8 ? -1 : 18);
            law("bars if " + "(".repeat(n) + "1=1" + ")".repeat(n), n <= 8 ? -1 : 16);
            orders("save " + open + "1" + close, n <= 8 ? -1 : 13, 1);
            orders("single " + open + "0" + close + " to 1", n <= 8 ? -1 : 15, 1);
            orders("single 0 to " + open + "1" + close, n <= 8 ? -1 : 20, 1);
            orders("pass if " + "(".repeat(n) + "1=1" + ")".repeat(n), n <= 8 ? -1 : 16, 1);
        }
        for (int n = 0; n <= 8; n++) {
            String test = "bars if " + "(".repeat(n) + "1=" + "[".repeat(8 - n);
            law(test + "1" + "]".repeat(8 - n) + ")".repeat(n), -1);
            law(test + "[1]" + "]".repeat(8 - n) + ")".repeat(n), 18);
            law("bars if " + "(".repeat(n) + "[".repeat(9 - n) + "1" + "]".repeat(9 - n) + "=1" + ")".repeat(n), 16);
        }
        law("costs " + "1+[".repeat(8) + "1" + "]".repeat(8), -1);
        law("costs " + "1+[".repeat(9) + "1" + "]".repeat(9), 6 + 8 * 3 + 2);
        law("bars if " + "not (".repeat(8) + "1=1" + ")".repeat(8), -1);
        law("bars if " + "not (".repeat(9) + "1=1" + ")".repeat(9), 8 + 8 * 5 + 4);
        law("bars if " + "1=2 or (".repeat(8) + "1=1" + ")".repeat(8), -1);
        law("bars if " + "1=2 or (".repeat(9) + "1=1" + ")".repeat(9), 8 + 8 * 8 + 7);
    }

    private static void bracketsBesideOthers() {
        D.promise("II: within one another alone");
        String eight = "[".repeat(8) + "1" + "]".repeat(8);
        law("costs " + eight + "+" + eight + "+" + eight, -1);
        law("costs [" + "[1]+".repeat(20) + "1]", -1);
        law("bars if " + eight + "=" + eight + " and " + "(".repeat(8) + "1=1" + ")".repeat(8), -1);
        law("costs " + eight + " if " + eight + "=1;costs " + eight, -1);
        orders("single " + eight + "-1 to " + eight, -1, 1);
        D.promise("II: \"not\" is no bracket");
        law("bars if " + "not ".repeat(95) + "1=1", -1);
        law("bars if " + "not ".repeat(80) + "(".repeat(8) + "1=1" + ")".repeat(8), -1);
        SplitFares x = new SplitFares();
        x.train(3, 1, 0);
        Due.force(x, "bars if " + "not ".repeat(96) + "1=1");
        D.due("96 of them", x.isBarred(0, 0, 0, 1), 1);
        Due.force(x, "bars if " + "not ".repeat(95) + "1=1");
        D.due("95 of them", x.isBarred(0, 0, 0, 1), 0);
        D.promise("II: brackets of one kind each");
        law("costs (1)", 6);
        law("costs [1)", 8);
        law("bars if [1=1]", 10);
        law("bars if (1=1]", 12);
        law("bars if (1)=1", 10);
        law("bars if ()", 9);
        law("costs []", 7);
        law("costs ]", 6);
        law("bars if )", 8);
        law("costs [1", 8);
        law("bars if (1=1", 12);
        law("costs [[1]", 10);
    }

    // ---- TIMES 1 .. 20

    private static void times() {
        D.promise("II: TIMES, a NUMBER 1 .. 20");
        for (int n = 1; n <= 20; n++) {
            orders("pass times " + n, -1, n);
        }
        String[] no = {"0", "00", "21", "22", "1000", "1001", "257", "4294967297", "18446744073709551617"};
        for (String n : no) {
            orders("pass times " + n, 11, 0);
        }
        orders("pass times 020", -1, 20);
        orders("pass times 0021", 11, 0);
        orders("pass times", 10, 0);
        orders("pass times ", 11, 0);
        orders("pass times -1", 11, 0);
        orders("pass times [1]", 11, 0);
        orders("pass times at", 11, 0);
        orders("pass times 2 + 1", 13, 0);
        orders("pass times 2 times 2", 13, 0);
        orders("pass if 1=1 times 2", 12, 0);
        orders("pass", -1, 1);
        law("bars times 2", 5);
    }

    private static void timesAndDays() {
        D.promise("II: as often as TIMES tell, 12 times 20 at most");
        SplitFares x = new SplitFares();
        D.due("240 DAYS", Due.orders(x, "pass times 20" + ";pass times 20".repeat(11)), 240);
        D.due("count(14)", x.count(14), 240);
        D.due("count(6)", x.count(6), 16);
        D.promise("13: the last DAY, the one behind it");
        x.terms(0, 979);
        D.due("to the last DAY", Due.orders(x, "pass times 20"), 20);
        D.due("count(14)", x.count(14), 999);
        x.terms(0, 980);
        D.due("one too many", Due.orders(x, "pass times 20"), -3);
        D.due("count(14)", x.count(14), 980);
        D.due("count(6)", x.count(6), 0);
        D.promise("II: each time its \"if\" is asked");
        D.due("until the last DAY", Due.orders(x, "pass times 20 if day < 999"), 19);
        D.due("count(14)", x.count(14), 999);
        D.due("not at all", Due.orders(x, "pass times 20 if day < 999"), 0);
        D.due("status()", x.status(), 0);
        D.due("stopped()", x.stopped(), -1);
        D.due("BROKEN each time", Due.orders(x, "pass times 20 if day / 0 = 1"), 0);
        D.due("every other time it is BROKEN", Due.orders(x, "save 1 times 20 if 5 / [done - 2] < 9"), 2);
    }

    private static void trainOfStops() {
        D.promise("II: T, a NUMBER 0 .. 5");
        for (int t = 0; t <= 5; t++) {
            orders("save stops " + t + " + 2", -1, 1);
            orders("save 1 if stops " + t + " = " + (t < 2 ? "8" : "0 - 1"), -1, 1);
        }
        String[] no = {"6", "06", "7", "10", "256", "1000", "1001", "4294967296", "at", "[1]", "-1", "x", ";"};
        for (String t : no) {
            orders("save stops " + t, 11, 0);
        }
        orders("save stops", 10, 0);
        orders("save stops ", 11, 0);
        orders("save stops 05 + 2", -1, 1);
        orders("save stops stops 1", 11, 0);
        law("costs stops 1", 6);
        D.promise("II: at how many STATIONS a TRAIN STOPS, 2 .. 8, -1 without such a one");
        SplitFares x = new SplitFares();
        x.train(Due.stops(0, 7), 1, 0);
        x.train(255, 1, 0);
        D.due("2, 8, -1", Due.orders(x, "save 100 * stops 0 + 10 * stops 1 + stops 2"), 1);
        D.due("count(2)", x.count(2), 1000 + 200 + 80 - 1);
    }

    // ---- words

    /** Another letter at each place of each word of a good TEXT, one too few, one too many: a FAULT there. */
    private static void eachLetter(String text, boolean asOrders) {
        for (int i = 0; i < text.length(); i++) {
            if (Character.isLetter(text.charAt(i))) {
                int start = i;
                while (start > 0 && Character.isLetter(text.charAt(start - 1))) {
                    start--;
                }
                String[] spoilt = {text.substring(0, i) + "q" + text.substring(i + 1), text.substring(0, i) + "q" + text.substring(i),
                    text.substring(0, i + 1) + "q" + text.substring(i + 1), text.substring(0, i) + "Q" + text.substring(i + 1),
                    text.substring(0, i) + text.substring(i + 1)};
                for (int n = 0; n < spoilt.length; n++) {
                    // a byte that is no letter ends a word, of which the first letters alone are none
                    SplitFares x = Offices.line();
                    D.due(spoilt[n], asOrders ? Due.orders(x, spoilt[n]) : Due.law(x, spoilt[n]), -6);
                    D.due("fault() of " + spoilt[n], x.fault(), start);
                }
            }
        }
    }

    private static void wordsOfLaws() {
        D.promise("II, 12: words, each by all its letters");
        String text = "costs from + to * far - return if hour = day or mood = 1 and not 1 = 2; bars";
        law(text, -1);
        eachLetter(text, false);
        String[] others = {"done", "latest", "at", "purse", "held", "stops", "times", "if", "or", "and", "not", "costs", "bars", "single", "ride", "save", "pass"};
        for (String word : others) {
            law("costs " + word, 6);
            law("costs [" + word, 7);
            law("bars if 1 < " + word, 12);
        }
    }

    private static void wordsOfOrders() {
        D.promise("II, 13: words, each by all its letters");
        String text = "single day to 1; return done + 1 to latest + 1 if 1 = 2 or 1 = 1 and not 1 = 1; save at + purse - held times 2; save stops 0; ride 0 to 1; pass";
        SplitFares x = Offices.line();
        D.due(text, Due.orders(x, text), 6);
        eachLetter(text, true);
        String[] others = {"from", "to", "far", "return", "hour", "mood", "times", "if", "or", "and", "not", "costs", "bars", "single", "ride", "save", "pass"};
        for (String word : others) {
            orders("save " + word, 5, 0);
            orders("save [" + word, 6, 0);
            orders("pass if 1 < " + word, 12, 0);
        }
    }

    private static void shorterBehindLonger() {
        D.promise("12, 13: of a TEXT nothing is left in the next one");
        SplitFares x = Offices.line();
        Due.law(x, "costs 1; costs 2; bars; costs 3; bars if far > 0");
        Due.force(x, "costs 5");
        D.due("price", x.price(0, 0, 1), 5);
        D.due("isBarred", x.isBarred(0, 0, 0, 1), 0);
        Due.law(x, "costs 1; bars; costs 2 if");
        Due.force(x, "bars if 1 = 2");
        D.due("price", x.price(0, 0, 1), 10);
        D.due("isBarred", x.isBarred(0, 0, 0, 1), 0);
        Due.orders(x, "save 1; save 1 times 20; pass; save");
        Due.orders(x, "pass; pass times 20; pass if 1 = 2; save 0");
        D.due("ORDERS", Due.orders(x, "save 3"), 1);
        D.due("count(2)", x.count(2), 1003);
        D.due("count(14)", x.count(14), 0);
        D.due("TIMES no more", Due.orders(x, "save 1; save 1"), 2);
        D.due("the LAW is as it was", x.compare(1, 0, 1), 5);
    }

    // ---- FAULT

    private static void faults() {
        D.promise("II, 14: FAULT, the first TOKEN that can't go on there; the end's: the TEXT's length");
        law("x", 0);
        law("  x", 2);
        law("costs", 5);
        law("costs  ", 7);
        law("costs 1 if", 10);
        law("costs 1 if 1", 12);
        law("costs 1 if 1 =", 14);
        law("costs 1 if 1 = 1 x", 17);
        law("costs 1 x if", 8);
        law("costs -", 6);
        law("costs 1 -", 9);
        law("costs 1 - -", 10);
        law("bars if not", 11);
        law("bars if not ;", 12);
        law("bars if 1=1 and", 15);
        law("bars if 1=1 or or", 15);
        law("bars if 1", 9);
        law("bars if 1 + 1", 13);
        law("bars if (1=1)=1", 13);
        law("bars if 1=1=1", 11);
        law("bars if 1<1>1", 11);
        law("bars if bars", 8);
        law("costs if 1=1", 6);
        law("costs costs", 6);
        law("if 1=1", 0);
        law(";", 0);
        orders("single", 6, 0);
        orders("single 0", 8, 0);
        orders("single 0 to", 11, 0);
        orders("single 0 1", 9, 0);
        orders("single 0 to 1 to", 14, 0);
        orders("single to", 7, 0);
        orders("return", 6, 0);
        orders("return 0 to ;", 12, 0);
        orders("ride", 4, 0);
        orders("ride 0 if 1=1", 7, 0);
        orders("save", 4, 0);
        orders("save 1 to 1", 7, 0);
        orders("save to", 5, 0);
        orders("pass 1", 5, 0);
        orders("pass;", 5, 0);
        orders("pass ; ", 7, 0);
        orders("pass pass", 5, 0);
        orders("costs 1", 0, 0);
        orders("bars", 0, 0);
        law("pass", 0);
        law("single 0 to 1", 0);
    }

    private static void faultIsKept() {
        D.promise("14: of the latest law(), orders() that read a TEXT; NONE without");
        SplitFares x = new SplitFares();
        D.due("ahead of any", x.fault(), -1);
        Due.law(x, "bars 1");
        D.due("behind one", x.fault(), 5);
        x.row();
        x.save(0);
        x.force(7);
        D.due("behind other calls", x.fault(), 5);
        Due.orders(x, "save 0");
        D.due("behind ORDERS that can't be", x.fault(), -1);
        Due.orders(x, "pass 1 2");
        D.due("behind others", x.fault(), 5);
        Due.law(x, "bars");
        D.due("behind a LAW", x.fault(), -1);
        for (int n = 1; n < 6; n++) {
            Due.law(x, "bars");
        }
        Due.orders(x, "x");
        D.due("behind no ORDERS", x.fault(), 0);
        Due.law(x, "bars");
        D.due("a seventh LAW is not read", x.fault(), 0);
        Due.law(x, "bars 1");
        D.due("a seventh LAW is not read", x.fault(), 0);
        Due.orders(x, "pass");
        D.due("behind ORDERS", x.fault(), -1);
        Due.law(x, "bars 1");
        D.due("a seventh LAW is not read", x.fault(), -1);
    }

    // ---- SUMS

    /** What a SINGLE from 2 to 5 COSTS: 30 without, as by a BROKEN one. */
    private static void sum(String sum, int due) {
        SplitFares x = new SplitFares();
        D.due("costs " + sum, Due.law(x, "costs " + sum), 0);
        D.due(sum, x.compare(0, 2, 5), due);
    }

    private static void test(String test, boolean due) {
        SplitFares x = new SplitFares();
        D.due("costs 1 if " + test, Due.law(x, "costs 1 if " + test), 0);
        D.due(test, x.compare(0, 2, 5), due ? 1 : 30);
    }

    private static void sumsToABillion() {
        D.promise("II: 1,000,000,000 either way, the first beyond it is BROKEN");
        test(BILLION + " > 0", true);
        test(BILLION + " + 0 > 0", true);
        test(BILLION + " + 1 > 0", false);
        test(BILLION + " + 1 < 0", false);
        test("[" + BILLION + " - 1] + 1 > 0", true);
        test("[" + BILLION + " - 1] + 2 > 0", false);
        test(BILLION + " - 1 > 0", true);
        test("0 - " + BILLION + " < 0", true);
        test("0 - " + BILLION + " - 0 < 0", true);
        test("0 - " + BILLION + " - 1 < 0", false);
        test("0 - " + BILLION + " - 1 > 0", false);
        test("0 - [" + BILLION + " - 1] - 2 < 0", false);
        test("0 - [" + BILLION + " - 1] - 1 < 0", true);
        test("[0 - " + BILLION + "] * 1 < 0", true);
        test("[0 - " + BILLION + "] * [0 - 1] > 0", true);
        test("[0 - " + BILLION + "] / [0 - 1] = " + BILLION, true);
        test("[0 - " + BILLION + "] % [0 - 1] = 0", true);
        test(BILLION + " * 2 > 0", false);
        test("[0 - " + BILLION + "] * 2 < 0", false);
        test(BILLION + " - [0 - 1] > 0", false);
        test("[0 - " + BILLION + "] + [0 - 1] < 0", false);
        test("[1000 * 1000] * [1000 * 1000] = 0", false);
        test("[1000 * 1000] * 1000 = " + BILLION, true);
        test("[1000 * 1000 + 1] * 1000 = 0 or 1 = 1", false);
        // 2 ^ 32 and 2 ^ 64 come round to 0
        test("[65 * 1000 + 536] * [65 * 1000 + 536] = 0 or 1 = 1", false);
        test("[1000 * 1000 * 1000] * [1000 * 1000 * 1000] < 0 or 1 = 1", false);
    }

    private static void stepsBeyondABillion() {
        D.promise("II: a part that was asked and is BROKEN makes all of it BROKEN");
        sum(BILLION + " * 10 / 1000 / 1000 / 1000", 30);
        sum("0 * [" + BILLION + " + 1]", 30);
        sum("[" + BILLION + " + 1] * 0", 30);
        sum(BILLION + " + 1 - 1 - " + BILLION, 30);
        sum(BILLION + " - 1 + 1 - " + BILLION, 0);
        sum("[" + BILLION + "] - [" + BILLION + "]", 0);
        sum(BILLION + " / 1000 / 1000", 1000);
        sum("5 % [" + BILLION + "]", 5);
        sum("5 / [" + BILLION + "]", 0);
        D.promise("13: PURSE and the words at their highest");
        SplitFares x = Offices.full();
        x.end(0);
        D.due("purse * 1000 * 10 is none too many", Due.orders(x, "save purse * 1000 * 10 / 1000 / 1000"), 1);
        D.due("purse * 1000 * 11 is", Due.orders(x, "save purse * 1000 * 11 / 1000 / 1000"), -3);
        D.due("stopped()", x.stopped(), 0);
        D.due("day at its highest", Due.orders(x, "save 1 if day = 999 and purse / 100 = 999"), 1);
    }

    private static void dividedByNothing() {
        D.promise("II: divided by 0");
        sum("1 / 0", 30);
        sum("1 % 0", 30);
        sum("0 / 0", 30);
        sum("0 % 0", 30);
        sum("1 / mood", 30);
        sum("1 % mood", 30);
        sum("1 / [from - 2]", 30);
        sum("0 / 1", 0);
        sum("0 % 1", 0);
        sum("7 / 1", 7);
        sum("7 % 1", 0);
        sum("50 + 7 / [0 - 1]", 43);
        sum("50 + 7 % [0 - 1]", 50);
        sum("0 * [1 / 0]", 30);
        sum("[1 % 0] - [1 % 0]", 30);
        test("1 / 0 = 1 / 0", false);
        test("not 1 / 0 = 1", false);
        test("1 = 1 / 0", false);
        test("1 / 1 = 1", true);
        D.promise("13: a BROKEN SUM can't be");
        SplitFares x = Offices.line();
        String[] broken = {"save 1 / 0", "save 1 % 0", "single 1 / 0 to 1", "single 0 to 1 / 0", "return 0 % 0 to 1", "return 0 to 1 % 0", "ride 0 / 0 to 1", "ride 0 to 1 / 0",
            "save " + BILLION + " * 2", "save 0 - " + BILLION + " * 2"};
        for (String text : broken) {
            D.due(text, Due.orders(x, text), -3);
            D.due("stopped()", x.stopped(), 0);
            D.due("fault()", x.fault(), -1);
        }
        D.due("count(10)", x.count(10), broken.length);
        D.due("count(2)", x.count(2), 1000);
    }

    private static void cutTowardsNothing() {
        D.promise("II: / cut towards 0, % what is left then");
        int[][] cases = {{7, 2, 3, 1}, {6, 2, 3, 0}, {5, 7, 0, 5}, {1, 1, 1, 0}, {999, 1000, 0, 999}, {1000, 999, 1, 1}, {1000, 1000, 1, 0}};
        for (int[] c : cases) {
            String a = "" + c[0];
            String b = "" + c[1];
            sum("100 + " + a + " / " + b, 100 + c[2]);
            sum("100 + [0 - " + a + "] / " + b, 100 - c[2]);
            sum("100 + " + a + " / [0 - " + b + "]", 100 - c[2]);
            sum("100 + [0 - " + a + "] / [0 - " + b + "]", 100 + c[2]);
            sum("1000 + " + a + " % " + b, 1000 + c[3]);
            sum("1000 + [0 - " + a + "] % " + b, 1000 - c[3]);
            sum("1000 + " + a + " % [0 - " + b + "]", 1000 + c[3]);
            sum("1000 + [0 - " + a + "] % [0 - " + b + "]", 1000 - c[3]);
        }
    }

    private static void brokenTests() {
        D.promise("II: \"or\", \"and\" ask what stands behind only if it can still matter");
        test("1 = 1 or 1 / 0 = 1", true);
        test("1 = 2 or 1 / 0 = 1", false);
        test("1 / 0 = 1 or 1 = 1", false);
        test("1 = 2 or 1 = 1 or 1 / 0 = 1", true);
        test("1 = 2 or 1 / 0 = 1 or 1 = 1", false);
        test("not (1 = 2 and 1 / 0 = 1)", true);
        test("not (1 = 1 and 1 / 0 = 1)", false);
        test("not (1 / 0 = 1 and 1 = 2)", false);
        test("not (1 = 1 and 1 = 2 and 1 / 0 = 1)", true);
        test("1 = 2 and 1 / 0 = 1 or 1 = 1", true);
        test("1 = 1 and 1 / 0 = 1 or 1 = 1", false);
        test("1 = 1 or 1 = 1 and 1 / 0 = 1", true);
        test("not (1 / 0 = 1 or 1 = 2)", false);
        test("(1 = 1 or 1 / 0 = 1) and (1 = 1 or 1 / 0 = 1)", true);
        test("not not 1 / 0 = 1", false);
        D.promise("II: < > = at, below and above");
        test("5 < 5", false);
        test("4 < 5", true);
        test("5 > 5", false);
        test("5 > 4", true);
        test("5 = 5", true);
        test("5 = 4", false);
        test("4 = 5", false);
        test("0 - 1 < 0", true);
        test("0 > 0 - 1", true);
    }

    // ---- LAWS

    private static void laws() {
        D.promise("II, 12: LAWS 0 .. 5, 6 at most");
        SplitFares x = new SplitFares();
        int[] no = {Integer.MIN_VALUE, Integer.MIN_VALUE + 1, -3, -2, 6, 7, 8, 256, Integer.MAX_VALUE};
        for (int n = 0; n < 6; n++) {
            D.due("force(" + n + ")", x.force(n), -2);
            D.due("compare(" + n + ")", x.compare(n, 0, 1), -1);
            D.due("count(5)", x.count(5), n);
            D.due("law()", Due.law(x, "costs " + (n + 1)), n);
            D.due("compare(" + n + ")", x.compare(n, 0, 1), n + 1);
        }
        int refused = 6;
        for (int law : no) {
            D.due("force(" + law + ")", x.force(law), -2);
            D.due("compare(" + law + ")", x.compare(law, 0, 1), -1);
            D.due("count(9)", x.count(9), ++refused);
            D.due("count(13)", x.count(13), -1);
        }
        D.due("a seventh", Due.law(x, "costs 7"), -5);
        D.due("count(5)", x.count(5), 6);
        D.due("the TAPE is empty", x.count(7), 0);
        D.due("a seventh of nothing: -5 ahead of -6", x.law(), -5);
        D.due("count(11)", x.count(11), 2);
        D.due("count(12)", x.count(12), 0);
        int was = -1;
        for (int n = 0; n < 6; n++) {
            D.due("force(" + n + ")", x.force(n), was);
            D.due("price", x.price(0, 0, 1), n + 1);
            D.due("compare(-1)", x.compare(-1, 0, 1), 10);
            was = n;
        }
        D.due("force(NONE)", x.force(-1), 5);
        D.due("force(NONE), as it is", x.force(-1), -1);
        D.due("price", x.price(0, 0, 1), 10);
        D.promise("12: room again behind back()");
        SplitFares y = new SplitFares();
        y.image(0);
        for (int n = 0; n < 6; n++) {
            Due.law(y, "bars");
        }
        y.back(0);
        D.due("law()", Due.law(y, "costs 5"), 0);
    }

    private static void costs() {
        D.promise("II, 4, 37: COSTS 0 .. 9,999, else the nearest");
        sum("1000 * 10 - 2", 9998);
        sum("1000 * 10 - 1", 9999);
        sum("1000 * 10", 9999);
        sum("1000 * 10 + 1", 9999);
        sum(BILLION, 9999);
        sum("1", 1);
        sum("0", 0);
        sum("0 - 1", 0);
        sum("0 - " + BILLION, 0);
        SplitFares x = Offices.line("costs 1000 * 10; costs 0 - 1 if return = 1");
        D.due("price of a SINGLE", x.price(0, 0, 1), 9999);
        D.due("price of a RETURN", x.price(1, 0, 1), 0);
        D.due("the CHEAPEST", x.cheapest(0, 0, 1, -1), 9999);
        D.due("to buy it is too dear", x.buy(0, 0, 1), -3);
        x.save(8999);
        D.due("to buy it", x.buy(0, 0, 1), 0);
        D.due("to buy the other one", x.buy(1, 0, 1), 0);
    }

    private static void without() {
        D.promise("II, 4: without, ten times far for a SINGLE, fifteen times far for a RETURN");
        SplitFares x = new SplitFares();
        Due.law(x, "bars");
        Due.law(x, "costs 5 if 1 = 2; costs 1 / 0; costs 5 if 1 / 0 = 1");
        for (int law = -1; law < 2; law++) {
            x.force(law);
            for (int far = 1; far <= 7; far++) {
                D.due("SINGLE up", x.price(0, 0, far), 10 * far);
                D.due("SINGLE down", x.price(0, 7, 7 - far), 10 * far);
                D.due("RETURN up", x.price(1, 7 - far, 7), 15 * far);
                D.due("RETURN down", x.price(1, far, 0), 15 * far);
                D.due("compare", x.compare(law, 0, far), 10 * far);
            }
        }
    }

    private static void lastThatHolds() {
        D.promise("II: as the last \"costs\" that HOLDS tells");
        for (int last = 0; last < 12; last++) {
            StringBuilder text = new StringBuilder();
            for (int n = 0; n < 12; n++) {
                text.append(n == 0 ? "" : ";").append("costs ").append(n + 1).append(n <= last ? "" : n % 2 == 0 ? "/0" : " if 2<1");
            }
            SplitFares x = new SplitFares();
            Due.force(x, text.toString());
            D.due("the " + last + ". of " + text, x.price(0, 0, 1), last + 1);
        }
        SplitFares x = new SplitFares();
        Due.force(x, "costs 4 if far = 1; bars; costs 5 if far = 2; bars if far = 3");
        D.due("the first one alone", x.price(0, 0, 1), 4);
        D.due("the last one alone", x.price(0, 0, 2), 5);
        D.due("none", x.price(0, 0, 3), 30);
    }

    private static void bars() {
        D.promise("II, 5: BARRED, if \"bars\" HOLDS: one of twelve, none");
        for (int one = -1; one < 12; one++) {
            StringBuilder text = new StringBuilder();
            for (int n = 0; n < 12; n++) {
                text.append(n == 0 ? "" : ";").append("bars if ").append(n == one ? "1=1" : n % 2 == 0 ? "1/0=1" : "1=2");
            }
            SplitFares x = Offices.line(text.toString());
            D.due(text.toString(), x.isBarred(0, 0, 0, 7), one < 0 ? 0 : 1);
            D.due("cheapest", x.cheapest(0, 0, 7, -1), one < 0 ? 70 : -1);
        }
        SplitFares x = Offices.line();
        D.due("without a LAW", x.isBarred(0, 0, 0, 7), 0);
        Due.force(x, "costs 5");
        D.due("without \"bars\"", x.isBarred(0, 0, 0, 7), 0);
        Due.force(x, "bars");
        D.due("without \"if\"", x.isBarred(0, 1, 0, 7), 1);
    }

    private static void hour() {
        D.promise("II: hour, -1 for \"costs\", the TRAIN's, 0 .. 23, for \"bars\"");
        SplitFares x = new SplitFares();
        x.train(3, 1, 0);
        x.train(3, 1, 23);
        Due.force(x, "costs 100 + hour; bars if hour < 1");
        D.due("costs", x.price(0, 0, 1), 99);
        D.due("bars at 0", x.isBarred(0, 0, 0, 1), 1);
        D.due("bars at 23", x.isBarred(1, 0, 0, 1), 0);
        Due.force(x, "costs 7 if hour = 0 - 1; bars if hour > 22");
        D.due("costs", x.price(0, 0, 1), 7);
        D.due("bars at 0", x.isBarred(0, 0, 0, 1), 0);
        D.due("bars at 23", x.isBarred(1, 0, 0, 1), 1);
        D.promise("II: from, to 0 .. 7, far 1 .. 7, return 0, 1, day 0 .. 999, mood 0 .. 9");
        Due.force(x, "costs from * 1000 + to * 100 + far * 10 + return");
        D.due("0 to 7", x.price(0, 0, 7), 770);
        D.due("7 to 0", x.price(1, 7, 0), 7071);
        D.due("7 to 6", x.price(0, 7, 6), 7610);
        D.due("0 to 1", x.price(1, 0, 1), 111);
        Due.force(x, "costs day * 10 + mood");
        D.due("the lowest", x.price(0, 0, 1), 0);
        x.terms(0, 999);
        x.terms(2, 9);
        D.due("the highest", x.price(0, 0, 1), 9999);
    }

    // ---- ORDERS

    private static void orderWords() {
        D.promise("II, 13: done from 0, latest from -1, held from 0, purse from 0");
        SplitFares x = Offices.line("costs 0");
        D.due("orders", Due.orders(x, "save 1 + done * 10 + held * 100 + [latest + 1] * 1000 times 3"), 3);
        D.due("1, 11, 21", x.count(2), 1033);
        D.due("what ahead of it was run counts no more", Due.orders(x, "save 1 + done"), 1);
        D.due("count(2)", x.count(2), 1034);
        Due.orders(x, "single 0 to 1; single 1 to 2; single 2 to 3; single 3 to 4; single 4 to 5; single 5 to 6; single 6 to 7");
        D.due("seven held, one ride by seven", Due.orders(x, "save held; ride 0 to 7; save latest * 10 + held + at * 100"), 3);
        D.due("count(2)", x.count(2), 1034 + 7 + 70 + 700);
        D.due("no ride in it", Due.orders(x, "save latest + 2"), 1);
        D.due("count(2)", x.count(2), 1811 + 1);
        D.due("a ride that is not run", Due.orders(x, "ride 1 to 0 if 1 = 2; save latest + 2"), 1);
        D.due("the latest of two", Due.orders(x, "single 7 to 6; single 6 to 5; single 5 to 4; ride 1 to 5; ride 1 to 4; save latest"), 6);
        D.due("count(2)", x.count(2), 1812 + 1 + 1);
    }

    private static void orderStations() {
        D.promise("13: as buy(), ride(), save(), pass() are REFUSED, each at its bounds");
        String[] good = {"single 0 to 7", "single 7 to 0", "return 7 to 6", "save 1", "save 1000 * 9 + 999", "pass", "single 0 to 1; ride 0 to 1"};
        for (String text : good) {
            SplitFares x = Offices.line();
            D.due(text, Due.orders(x, text) > 0 ? 1 : 0, 1);
            D.due("stopped() of " + text, x.stopped(), -1);
        }
        String[] bad = {"single 0 to 8", "single 0 - 1 to 7", "single 8 to 0", "single 7 to 0 - 1", "single 3 to 3", "return 0 to 8", "return 8 to 0", "return 0 to 0",
            "save 0", "save 0 - 1", "save 1000 * 10", "ride 0 to 8", "ride 0 to 0 - 1", "ride 2 to 1", "ride 0 - 1 to 1", "ride 0 to 0", "ride 0 to 1",
            "single 256 to 257", "save 1000 * 1000 * 1000", "ride 256 to 1"};
        for (String text : bad) {
            SplitFares x = Offices.line();
            x.save(5);
            D.due(text, Due.orders(x, "save 7; " + text), -3);
            D.due("stopped() of " + text, x.stopped(), 1);
            D.due("count(2)", x.count(2), 1005);
            D.due("count(6)", x.count(6), 1);
            D.due("one REFUSED call by -3, none by another number", x.count(8) * 100 + x.count(9) * 10 + x.count(10), 1);
        }
    }

    private static void ordersFromTheLeft() {
        D.promise("II: CLAUSE by CLAUSE, wholly or not at all");
        SplitFares x = Offices.line();
        D.due("the purse to nothing", Due.orders(x, "save 20; single 0 to 7 times 9; single 0 to 6 times 6; single 0 to 3"), 17);
        D.due("count(2)", x.count(2), 1020 - 630 - 360 - 30);
        D.due("a SINGLE more", Due.orders(x, "save 9; single 0 to 1"), -3);
        D.due("count(2)", x.count(2), 0);
        D.due("a SINGLE more for ten", Due.orders(x, "save 10; single 0 to 1"), 2);
        D.due("count(2)", x.count(2), 0);
        D.due("held", x.held(0, 0, 1), 1);
    }

    private static void stopped() {
        D.promise("15: which CLAUSE, from the first to the twelfth; NONE");
        for (int n = 0; n < 12; n++) {
            SplitFares x = new SplitFares();
            D.due("ahead of any", x.stopped(), -1);
            D.due("orders", Due.orders(x, "pass;".repeat(n) + "save 0" + ";pass".repeat(11 - n)), -3);
            D.due("stopped()", x.stopped(), n);
            D.due("count(14)", x.count(14), 0);
            x.law();
            D.due("behind law()", x.stopped(), n);
            Due.orders(x, n % 2 == 0 ? "pass" : "pass 1");
            D.due("done, or REFUSED by -6", x.stopped(), -1);
        }
        D.promise("13, 15: the first that can't be ends it");
        for (int n = 0; n < 12; n++) {
            SplitFares x = Offices.line();
            D.due("all behind it can't be", Due.orders(x, "pass;".repeat(n) + "save 0" + ";ride 5 to 0".repeat(11 - n)), -3);
            D.due("stopped()", x.stopped(), n);
            D.due("one call by -3", x.count(10), 1);
        }
        SplitFares x = new SplitFares();
        D.due("the first time", Due.orders(x, "save 1 - done times 2"), -3);
        D.due("the second time is of the same CLAUSE", x.stopped(), 0);
        D.due("count(2)", x.count(2), 1000);
    }
}
