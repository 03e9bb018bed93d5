/** Promises 12 to 15: both languages, what is a FAULT in them, what LAWS and ORDERS do. */
public final class TextPromisesTest {
    private static final Due D = new Due("TextPromisesTest");

    public static void main(String[] args) {
        law();
        lawFaults();
        orderFaults();
        limits();
        sumsAndTests();
        broken();
        orders();
        ordersCannot();
        words();
        D.end();
    }

    private static void law() {
        D.promise("12");
        SplitFares x = new SplitFares();
        D.due("law()", x.law(), -6);
        D.due("fault() of nothing", x.fault(), 0);
        Due.tape(x, "   ");
        D.due("law() of blanks", x.law(), -6);
        D.due("fault()", x.fault(), 3);
        x.save(1);
        for (int i = 0; i < 6; i++) {
            D.due("law", Due.law(x, "costs " + i), i);
            D.due("fault()", x.fault(), -1);
            D.due("count(7)", x.count(7), 0);
        }
        D.due("law() leaves what can be undone", x.undo(), 2);
        D.due("bad orders", Due.orders(x, "save"), -6);
        D.due("fault()", x.fault(), 4);
        D.due("a seventh law", Due.law(x, "costs 7"), -5);
        D.due("count(7)", x.count(7), 0);
        D.due("a seventh that is no text", Due.law(x, "x"), -5);
        D.due("fault() of the latest that was read", x.fault(), 4);
        D.due("count(5)", x.count(5), 6);
        x.force(3);
        D.due("price", x.price(0, 0, 1), 3);
    }

    private static void fault(boolean orders, String text, int place) {
        SplitFares x = new SplitFares();
        int got = orders ? Due.orders(x, text) : Due.law(x, text);
        D.due("\"" + text + "\"", got, place < 0 && orders ? got : place < 0 ? 0 : -6);
        D.due("fault() of \"" + text + "\"", x.fault(), place);
        D.due("the tape is empty", x.count(7), 0);
        D.due("count(12)", x.count(12), place < 0 ? 0 : 1);
    }

    private static void lawFaults() {
        D.promise("12, 14");
        String[] good = {"bars", " bars ", "costs 5", "costs5", "costs 1000", "costs 0001000", "costs[far]", "bars;bars", "bars ; costs 0",
            "bars if far=1", "bars if not not far>1", "bars if(far=1)", "costs from+to*far/return%hour-day+mood if 1<2 or 3=4 and 5>6",
            "bars if ((1=1)or not(2<1))and 3=3", "costs [[[[[[[[1]]]]]]]]", "bars if not(not([1]=[1]))", "bars if[1]=1", "bars if 1 = 1;costs 2"};
        for (String text : good) {
            fault(false, text, -1);
        }
        Object[][] bad = {{"", 0}, {" ", 1}, {"cost 1", 0}, {"Costs 1", 0}, {"costs", 5}, {"costs ", 6}, {"costs 1001", 6}, {"costs 99999999999999999999", 6},
            {"costs -1", 6}, {"costs (5)", 6}, {"costs 5)", 7}, {"costs 1 2", 8}, {"costs 1 +", 9}, {"costs 1 + + 2", 10}, {"costs 1 < 2", 8},
            {"costs at", 6}, {"costs stops 1", 6}, {"costs done", 6}, {"costs purse", 6}, {"costs if", 6}, {"costs fars", 6}, {"costs far s", 10},
            {"bars 3", 5}, {"bars if", 7}, {"bars if far", 11}, {"bars if far >", 13}, {"bars if far > 2 3", 16}, {"bars if far > 2 < 3", 16},
            {"bars if (far) > 2", 12}, {"bars if ((far > 2)", 18}, {"bars if (far > 2]", 16}, {"bars if [far > 2]", 13}, {"bars if not", 11},
            {"bars if far > 2 or", 18}, {"bars if far > 2 and", 19}, {"bars if or", 8}, {"bars if far > 2 and or", 20}, {"bars if (not far)", 16},
            {"bars;", 5}, {"bars;;", 5}, {";bars", 0}, {"bars bars", 5}, {"bars times 2", 5}, {"costs 1 if 1=1 if 2=2", 15}, {"costs 1\n", 7},
            {"costs 1\u0000", 7}, {"costs 1\u00e9", 7}, {"costs 1 if 1=1;x", 15}, {"pass", 0}, {"costs [1", 8}, {"costs [1)", 8}, {"costs []", 7},
            {"costs to to 2", 9}, {"costs farz", 6}, {"costs zfar", 6}, {"costs far`", 9}, {"costs far{", 9}, {"costs 5:", 7}, {"costs afar", 6}, {"bars if 1=1 2", 12}, {"bars if (1=1) > 2", 14}, {"bars if 1=1=1", 11}, {"costs 1.5", 7}, {"costs 5far", 7}};
        for (Object[] b : bad) {
            fault(false, (String) b[0], (Integer) b[1]);
        }
    }

    private static void orderFaults() {
        D.promise("13, 14");
        String[] good = {"pass", "save 5", "single 0 to 1", "return 1 to 0", "pass times 20", "pass times 1 if 1 = 1", "save stops 0", "save stops 05 + 3",
            "ride 0 to 1", "save day + done + latest + at + purse + held + 1", "pass times 007", "single at+1 to[at]", "pass;pass;save[1]times 2if 1=1"};
        for (String text : good) {
            fault(true, text, -1);
        }
        Object[][] bad = {{"", 0}, {"bars", 0}, {"costs 1", 0}, {"pass 1", 5}, {"pass times", 10}, {"pass times 0", 11}, {"pass times 21", 11},
            {"pass times at", 11}, {"pass times 2 times 2", 13}, {"pass if 1=1 times 2", 12}, {"pass times [2]", 11}, {"pass times 1 + 1", 13},
            {"save", 4}, {"save stops", 10}, {"save stops 6", 11}, {"save stops at", 11}, {"save stops [1]", 11}, {"save stops 1000", 11},
            {"save far", 5}, {"save mood", 5}, {"save hour", 5}, {"save from", 5}, {"save return", 5}, {"save to", 5}, {"save 1 to 2", 7},
            {"single 0", 8}, {"single 0 1", 9}, {"single 0 to", 11}, {"single to 1", 7}, {"single 0 by 1", 9}, {"return 0 if 1=1", 9}, {"ride 0", 6},
            {"ride to 0", 5}, {"ride 0 to 0 to 0", 12}, {"pass;", 5}, {"single 1001 to 0", 7}, {"single 1 to 1001", 12}, {"halve 1 to 2", 0}};
        for (Object[] b : bad) {
            fault(true, (String) b[0], (Integer) b[1]);
        }
    }

    private static void limits() {
        D.promise("12 to 14, limits");
        fault(false, "bars" + ";bars".repeat(11), -1);
        fault(false, "bars" + ";bars".repeat(12), 60);
        fault(false, "bars" + ";bars".repeat(11) + ";", 60);
        fault(false, "bars" + ";bars".repeat(11) + ";  x", 62);
        fault(false, "bars" + ";bars".repeat(11) + " 5", 60);
        fault(true, "pass" + ";pass".repeat(11), -1);
        fault(true, "pass" + ";pass".repeat(11) + "; pass", 61);
        // 50 PARTS in a TEXT, whatever its CLAUSES
        fault(false, "costs 1" + "+1".repeat(49), -1);
        fault(false, "costs 1" + "+1".repeat(50), 106);
        fault(false, "costs 1" + "+far".repeat(49), -1);
        fault(false, "costs 1" + "+far".repeat(50), 7 + 49 * 4 + 1);
        fault(false, "costs 1" + "+1".repeat(24) + ";costs 1" + "+1".repeat(24), -1);
        fault(false, "costs 1" + "+1".repeat(24) + ";costs 1" + "+1".repeat(24) + " if 1 = 1", 55 + 8 + 48 + 4);
        fault(false, "costs 1" + "+1".repeat(49) + "+", 106);
        fault(false, "costs 1" + "+1".repeat(49) + "+x", 106);
        // T, TIMES are no PARTS
        fault(true, "save 1" + "+stops 1".repeat(47) + " times 2", -1);
        fault(true, "save 1" + "+at".repeat(49) + " times 2", -1);
        fault(true, "save 1" + "+at".repeat(48) + "+stops 1 times 2", -1);
        fault(true, "save 1" + "+at".repeat(49) + "+stops 1 times 2", 6 + 49 * 3 + 1);
        fault(true, "save 1" + "+at".repeat(49) + " times 2 if 1=1", 6 + 49 * 3 + 12);
        // 8 brackets of both kinds within one another
        fault(false, "costs " + "[".repeat(8) + "1" + "]".repeat(8), -1);
        fault(false, "costs " + "[".repeat(9) + "1" + "]".repeat(9), 14);
        fault(true, "save " + "[".repeat(8) + "1" + "]".repeat(8), -1);
        fault(true, "save " + "[".repeat(9) + "1" + "]".repeat(9), 13);
        fault(true, "ride 0 to " + "[".repeat(8) + "1" + "]".repeat(8), -1);
        fault(true, "ride 0 to " + "[".repeat(9) + "1" + "]".repeat(9), 18);
        fault(false, "bars if " + "(".repeat(8) + "1=1" + ")".repeat(8), -1);
        fault(false, "bars if " + "(".repeat(9) + "1=1" + ")".repeat(9), 16);
        fault(false, "bars if " + "(".repeat(4) + "[[[[1]]]]=1" + ")".repeat(4) + " or " + "(".repeat(8) + "1=1" + ")".repeat(8), -1);
        fault(false, "bars if " + "(".repeat(4) + "1=[[[[[1]]]]]" + ")".repeat(4), 18);
        fault(false, "bars if " + "(".repeat(8) + "[1]=1" + ")".repeat(8), 16);
        fault(false, "bars if " + "not ".repeat(97) + "1=1", -1);
        fault(false, "bars" + " ".repeat(396), -1);
        fault(false, "bars" + " ".repeat(395) + "1", 399);
        fault(false, "costs " + "0".repeat(393) + "1", -1);
        fault(false, "costs 1" + "0".repeat(393), 6);
    }

    private static void sum(String sum, int due) {
        SplitFares x = new SplitFares();
        D.due("costs " + sum, Due.law(x, "costs " + sum), 0);
        D.due(sum, x.compare(0, 2, 5), due);
    }

    private static void test(String test, boolean due) {
        SplitFares x = new SplitFares();
        D.due("costs 1 if " + test, Due.law(x, "costs 1 if " + test), 0);
        D.due(test, x.compare(0, 2, 5), due ? 1 : 30);
    }

    private static void sumsAndTests() {
        D.promise("4, 12, SUMS and TESTS");
        sum("2 + 3 * 4", 14);
        sum("[2 + 3] * 4", 20);
        sum("10 - 3 - 2", 5);
        sum("100 / 5 / 2", 10);
        sum("100 / [5 / 2]", 50);
        sum("7 % 4 * 2", 6);
        sum("50 + [0 - 7] / 2", 47);
        sum("50 + [0 - 7] % 4", 47);
        sum("50 + 7 / [0 - 2]", 47);
        sum("50 + 7 % [0 - 4]", 53);
        sum("from * 100 + to * 10 + far", 253);
        sum("[1 + [2 + [3 * [from]]]]", 9);
        sum("5 - 6", 0);
        sum("1000 * 9 + 999", 9999);
        sum("1000 * 10", 9999);
        sum("3 + hour", 2);
        test("1 < 2", true);
        test("2 < 2", false);
        test("2 > 1", true);
        test("2 > 2", false);
        test("2 = 2", true);
        test("2 = 3", false);
        test("1 = 2 or 2 = 2", true);
        test("1 = 1 or 2 = 2 and 3 = 4", true);
        test("(1 = 1 or 2 = 2) and 3 = 4", false);
        test("not 1 = 1 or 1 = 1", true);
        test("not (1 = 1 or 1 = 1)", false);
        test("not not 1 = 1", true);
        test("not not not 1 = 1", false);
        test("not 1 = 2 and 1 = 1", true);
        test("1 = 2 and 1 = 1 or 3 = 3", true);
        test("1 = 2 or 1 = 3 or 1 = 1", true);
        test("1 = 1 and 2 = 2 and 3 = 4", false);
        test("not (not (1 = 1))", true);
        test("return = 0 and day = 0 and mood = 0 and from = 2 and to = 5 and far = 3 and hour + 1 = 0", true);
    }

    private static void broken() {
        D.promise("4, 12, BROKEN");
        sum("1 / 0", 30);
        sum("1 % 0", 30);
        sum("[1000 * 1000 * 1000] / 1000 / 1000", 1000);
        sum("[1000 * 1000 * 1000 + 1] / 1000 / 1000", 30);
        sum("[0 - 1000 * 1000 * 1000] / 1000 / [0 - 1000]", 1000);
        sum("[0 - 1000 * 1000 * 1000 - 1] / 1000 / [0 - 1000]", 30);
        sum("1000 * 1000 * 1000 * 1000 * 0", 30);
        sum("0 * [1 / 0]", 30);
        sum("0 / 5", 0);
        test("1 / 0 = 1", false);
        test("not 1 / 0 = 1", false);
        test("1 = 1 or 1 / 0 = 1", true);
        test("1 / 0 = 1 or 1 = 1", false);
        test("1 = 2 or 1 / 0 = 1 or 1 = 1", false);
        test("1 = 2 and 1 / 0 = 1", false);
        test("not (1 = 2 and 1 / 0 = 1)", true);
        test("not (1 = 1 and 1 / 0 = 1)", false);
        test("1 = 2 and 1 / 0 = 1 or 2 = 2", true);
        test("1 = 1 and 1 / 0 = 1 or 2 = 2", false);
        test("(1 = 1 or 1 / 0 = 1) and 2 = 2", true);
        test("1 % 0 = 1 or 2 = 2", false);
        test("1 = 1 / 0", false);
        test("1000 * 1000 * 1000 < 1000 * 1000 * 1000 + 1 or 1 = 1", false);
    }

    private static void orders() {
        D.promise("13, 15");
        SplitFares x = new SplitFares();
        x.train(Due.stops(0, 1, 2), 1, 8);
        D.due("orders", Due.orders(x, "single 0 to 1; ride 0 to 1; save 25; pass"), 4);
        D.due("count(1)", x.count(1), 1);
        D.due("count(2)", x.count(2), 1015);
        D.due("count(14)", x.count(14), 1);
        D.due("count(6)", x.count(6), 4);
        D.due("stopped()", x.stopped(), -1);
        D.due("undo()", x.undo(), 3);
        D.due("undo()", x.undo(), 2);
        D.due("undo()", x.undo(), 1);
        D.due("undo()", x.undo(), 0);
        D.due("count(2)", x.count(2), 1000);
        D.due("times", Due.orders(x, "save 1 times 20; save 100 times 3 if purse / 100 < 12"), 22);
        D.due("count(2): it is asked each time", x.count(2), 1220);
        D.due("count(6): 16 are kept", x.count(6), 16);
        D.due("none run", Due.orders(x, "pass if day = 5; pass if 1 / 0 = 1; save 0 if 1 = 2"), 0);
        D.due("status()", x.status(), 0);
        D.due("done", Due.orders(x, "pass times 5 if done < 3; save done + 7 if done = 3"), 4);
        D.due("count(14)", x.count(14), 3);
        D.due("count(2)", x.count(2), 1230);
        D.due("if behind times", Due.orders(x, "pass times 2 if day > 2"), 2);
    }

    private static void cannot(String text, int clause) {
        SplitFares x = new SplitFares();
        x.train(Due.stops(0, 1, 2), 1, 8);
        x.terms(0, 998);
        x.buy(1, 0, 2);
        x.save(5);
        D.due(text, Due.orders(x, text), -3);
        D.due("stopped() of " + text, x.stopped(), clause);
        D.due("count(2)", x.count(2), 975);
        D.due("count(3)", x.count(3), 1);
        D.due("count(1)", x.count(1), 0);
        D.due("count(14)", x.count(14), 998);
        D.due("count(6)", x.count(6), 2);
        D.due("count(7)", x.count(7), 0);
        D.due("count(10)", x.count(10), 1);
        D.due("fault()", x.fault(), -1);
        D.due("status()", x.status(), -3);
        D.due("undo()", x.undo(), 2);
        D.due("undo()", x.undo(), 0);
        D.due("count(2)", x.count(2), 1000);
    }

    private static void ordersCannot() {
        D.promise("13, 15");
        cannot("save 0", 0);
        cannot("save 1000 * 10", 0);
        cannot("save 0 - 1", 0);
        cannot("save 1 / 0", 0);
        cannot("pass; pass", 1);
        cannot("pass times 2", 0);
        cannot("save 5; single 0 to 0", 1);
        cannot("save 5; single 0 to 8", 1);
        cannot("save 5; single 0 - 1 to 1", 1);
        cannot("save 5; return 1 to 1 / 0", 1);
        cannot("save 5; return 1 % 0 to 1", 1);
        cannot("save 5; ride 1 to 1", 1);
        cannot("save 5; ride 0 to 1", 1);
        cannot("ride 0 to 2; pass; ride 0 to 0", 2);
        cannot("single 0 to 1 times 9; single 0 to 1", 1);
        cannot("single 0 to 1 times 10", 0);
        cannot("save 1 times 20; pass; ride 0 to 2; save 0", 3);
        SplitFares x = new SplitFares();
        Due.orders(x, "pass; save 0");
        D.due("stopped()", x.stopped(), 1);
        Due.orders(x, "pass");
        D.due("stopped() behind one that was done", x.stopped(), -1);
        Due.orders(x, "pass; save 0");
        Due.orders(x, "pass; save");
        D.due("stopped() behind -6", x.stopped(), -1);
        Due.orders(x, "save 0");
        D.due("stopped()", x.stopped(), 0);
        Due.law(x, "bars");
        D.due("law() leaves it", x.stopped(), 0);
    }

    /** What each word of ORDERS tells: that many pence are put by. */
    private static void word(String words, int due) {
        SplitFares x = new SplitFares();
        x.train(Due.stops(0, 1, 2, 4), 1, 8);
        x.train(Due.stops(3, 4), 0, 8);
        x.terms(0, 17);
        Due.orders(x, "single 0 to 1; single 1 to 2; return 2 to 4; ride 0 to 2");
        int purse = x.count(2);
        D.due("save " + words, Due.orders(x, "save " + words), 1);
        D.due(words, x.count(2) - purse, due);
    }

    private static void words() {
        D.promise("13, words");
        word("day", 17);
        word("at", 2);
        word("purse", 950);
        word("held", 1);
        word("stops 0", 4);
        word("stops 1", 2);
        word("stops 2 + 10", 9);
        word("stops 5 + 10", 9);
        word("done + 3", 3);
        word("latest + 3", 2);
        SplitFares x = new SplitFares();
        x.train(Due.stops(0, 1, 2, 4), 1, 8);
        Due.orders(x, "single 0 to 1; single 1 to 2; return 2 to 4; ride 0 to 2; save latest * 100; ride 0 to 4; save latest * 10 + held");
        D.due("latest, held", x.count(2), 950 + 200 + 10 + 1);
        D.due("a HALF is held", x.held(2, 4, 2), 1);
    }
}
