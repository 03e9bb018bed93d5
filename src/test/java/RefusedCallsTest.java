import java.util.function.Supplier;

/**
 * Each way in which a call is REFUSED, by which number (the first of them in their order), how that is
 * counted; and that all that the document leaves as it was is as it was, behind questions as well.
 */
public final class RefusedCallsTest {
    private static final Due D = new Due("RefusedCallsTest");
    private static final Twins BARE = new Twins(D, SplitFares::new);
    private static final Twins LIVELY = new Twins(D, Offices::lively);
    private static final Twins FULL = new Twins(D, Offices::full);
    private static final Twins[] ALL = {BARE, LIVELY, FULL};

    public static void main(String[] args) {
        train();
        terms();
        feedAndEnd();
        row();
        law();
        lawFaulty();
        ordersThatCannotBe();
        ordersFaulty();
        force();
        buy();
        ride();
        save();
        passAndUndo();
        told();
        months();
        images();
        questions();
        questionsWithoutAnswer();
        drawnAndCount();
        D.end();
    }

    /** Such an object with this text alone on its TAPE. */
    private static Twins with(Supplier<SplitFares> maker, String text) {
        return new Twins(D, () -> {
            SplitFares x = maker.get();
            Due.tape(x, text);
            return x;
        });
    }

    private static void train() {
        D.promise("2, refused");
        for (Twins twins : ALL) {
            twins.refused("train of no STOPS", x -> x.train(0, 1, 8), -1);
            twins.refused("train of one STOP", x -> x.train(64, 1, 8), -1);
            twins.refused("train of STOPS -1", x -> x.train(-1, 1, 8), -1);
            twins.refused("train of STOPS 256", x -> x.train(256, 1, 8), -1);
            twins.refused("train neither UP nor DOWN", x -> x.train(3, 2, 8), -1);
            twins.refused("train at 24", x -> x.train(3, 1, 24), -1);
            twins.refused("train at -1", x -> x.train(3, 1, -1), -1);
        }
        FULL.refused("a seventh TRAIN", x -> x.train(3, 1, 8), -5);
    }

    private static void terms() {
        D.promise("7, refused");
        for (Twins twins : ALL) {
            twins.refused("DAY 1000", x -> x.terms(0, 1000), -1);
            twins.refused("DAY -1", x -> x.terms(0, -1), -1);
            twins.refused("CHECKS 11", x -> x.terms(1, 11), -1);
            twins.refused("CHECKS -1", x -> x.terms(1, -1), -1);
            twins.refused("MOOD 10", x -> x.terms(2, 10), -1);
            twins.refused("MOOD -1", x -> x.terms(2, -1), -1);
            twins.refused("a fourth TERM", x -> x.terms(3, 0), -1);
            twins.refused("a TERM -1", x -> x.terms(-1, 0), -1);
        }
    }

    private static void feedAndEnd() {
        D.promise("8, 9, NONE");
        FULL.asked("bytes 401 to 420", x -> x.feed(1, 2, 3, 4, 5), -1);
        Twins nearly = with(Offices::lively, " ".repeat(381));
        nearly.asked("a byte too many", x -> x.feed(1, 2, 3, 4, 5), -1);
        nearly.asked("end(382)", x -> x.end(382), -1);
        for (Twins twins : ALL) {
            twins.asked("end(-1)", x -> x.end(-1), -1);
            twins.asked("end(401)", x -> x.end(401), -1);
        }
        LIVELY.asked("feed", x -> x.feed(1, 2, 3, 4, 5), 39, "tape");
        LIVELY.asked("end(3)", x -> x.end(3), 3, "tape");
        LIVELY.asked("end(19), as it is", x -> x.end(19), 19);
        BARE.asked("end(0), as it is", x -> x.end(0), 0);
        BARE.asked("end(1)", x -> x.end(1), -1);
    }

    private static void row() {
        D.promise("10, refused");
        BARE.refused("row() of nothing", SplitFares::row, -6);
        with(Offices::lively, "").refused("row() of nothing", SplitFares::row, -6);
        with(Offices::full, "").refused("row() of nothing", SplitFares::row, -6);
        with(Offices::lively, "?").accepted("row() of a DELAY alone", SplitFares::row, 0, "tape");
        with(Offices::full, "\u0003\u0001\u0000\u0003").accepted("row() without room", SplitFares::row, 0, "tape", "delays");
    }

    private static void law() {
        D.promise("12, refused by -5");
        String[] texts = {"costs 1", "", "  ", "costs", "pass"};
        for (String text : texts) {
            with(Offices::full, text).refused("a seventh LAW \"" + text + "\"", SplitFares::law, -5, "tape");
            SplitFares x = Offices.full();
            Due.tape(x, text);
            x.law();
            D.due("the TAPE is empty behind \"" + text + "\"", x.count(7), 0);
        }
    }

    private static void lawFaulty() {
        D.promise("12, refused by -6");
        String[] texts = {"", "   ", "costs", "pass", "bars if far"};
        int[] faults = {0, 3, 5, 0, 11};
        for (int i = 0; i < texts.length; i++) {
            String text = texts[i];
            with(SplitFares::new, text).refused("law() of \"" + text + "\"", SplitFares::law, -6, "tape", "fault");
            with(Offices::lively, text).refused("law() of \"" + text + "\"", SplitFares::law, -6, "tape", "fault");
            SplitFares x = Offices.lively();
            Due.tape(x, text);
            x.law();
            D.due("fault() of \"" + text + "\"", x.fault(), faults[i]);
            D.due("the TAPE is empty behind \"" + text + "\"", x.count(7), 0);
            D.due("how many LAWS there are", x.count(5), 2);
        }
    }

    private static void ordersThatCannotBe() {
        D.promise("13, refused by -3");
        String[] texts = {"save 0", "save 1; save 2 times 20; single 0 to 0", "save 1 times 20; save 1 / 0",
            "single 3 to 7; return 3 to 7; ride 0 to 8", "save 5 times 3 if done < 2; ride 1 to 3", "pass times 20 if day < 999; ride 0 to 0 - 1"};
        int[] clauses = {0, 2, 1, 2, 1, 1};
        for (int i = 0; i < texts.length; i++) {
            String text = texts[i];
            with(SplitFares::new, text).refused(text, SplitFares::orders, -3, "tape", "fault", "stopped");
            with(Offices::lively, text).refused(text, SplitFares::orders, -3, "tape", "fault", "stopped");
            with(Offices::full, text).refused(text, SplitFares::orders, -3, "tape", "fault", "stopped");
            SplitFares x = Offices.lively();
            Due.tape(x, text);
            x.orders();
            D.due("fault() of " + text, x.fault(), -1);
            D.due("the TAPE is empty behind " + text, x.count(7), 0);
            D.due("stopped() of " + text, x.stopped(), clauses[i]);
        }
        with(Offices::full, "pass").refused("pass on DAY 999", SplitFares::orders, -3, "tape", "fault", "stopped");
        with(Offices::full, "single 0 to 1").refused("a tenth", SplitFares::orders, -3, "tape", "fault", "stopped");
    }

    private static void ordersFaulty() {
        D.promise("13, refused by -6");
        String[] texts = {"", " ", "save 5; save", "save 0; bars", "costs 1"};
        int[] faults = {0, 1, 12, 8, 0};
        for (int i = 0; i < texts.length; i++) {
            String text = texts[i];
            with(SplitFares::new, text).refused("orders() of \"" + text + "\"", SplitFares::orders, -6, "tape", "fault", "stopped");
            with(Offices::lively, text).refused("orders() of \"" + text + "\"", SplitFares::orders, -6, "tape", "fault", "stopped");
            with(Offices::full, text).refused("orders() of \"" + text + "\"", SplitFares::orders, -6, "tape", "fault", "stopped");
            SplitFares x = Offices.lively();
            D.due("stopped() ahead of it", x.stopped(), 1);
            Due.tape(x, text);
            x.orders();
            D.due("fault() of \"" + text + "\"", x.fault(), faults[i]);
            D.due("stopped() of \"" + text + "\"", x.stopped(), -1);
            D.due("the TAPE is empty behind \"" + text + "\"", x.count(7), 0);
        }
    }

    private static void force() {
        D.promise("16, refused");
        BARE.refused("force(0) without a LAW", x -> x.force(0), -2);
        LIVELY.refused("force(2) of two LAWS", x -> x.force(2), -2);
        LIVELY.refused("force(-2)", x -> x.force(-2), -2);
        FULL.refused("force(6) of six LAWS", x -> x.force(6), -2);
        FULL.refused("force(-2)", x -> x.force(-2), -2);
        BARE.accepted("force(NONE), as it is", x -> x.force(-1), -1);
        LIVELY.accepted("force(1), as it is", x -> x.force(1), 1);
    }

    private static void buy() {
        D.promise("17, refused");
        for (Twins twins : ALL) {
            twins.refused("a sort 2", x -> x.buy(2, 0, 1), -1);
            twins.refused("a sort -1", x -> x.buy(-1, 0, 1), -1);
            twins.refused("one STATION alone", x -> x.buy(0, 1, 1), -1);
            twins.refused("from 8", x -> x.buy(0, 8, 1), -1);
            twins.refused("to -1", x -> x.buy(1, 1, -1), -1);
        }
        FULL.refused("a tenth", x -> x.buy(0, 0, 1), -3);
        Twins poor = new Twins(D, () -> {
            SplitFares x = Offices.lively();
            Due.force(x, "costs 1000 * 10");
            return x;
        });
        poor.refused("more than is in the PURSE", x -> x.buy(1, 0, 6), -3);
        poor.refused("-1 ahead of -3", x -> x.buy(1, 6, 6), -1);
    }

    private static void ride() {
        D.promise("18, refused");
        BARE.refused("to 8 without a TRAIN: -1 ahead of -2", x -> x.ride(0, 8), -1);
        BARE.refused("without a TRAIN, to AT: -2 ahead of -3", x -> x.ride(0, 0), -2);
        for (Twins twins : new Twins[] {LIVELY, FULL}) {
            twins.refused("to 8", x -> x.ride(0, 8), -1);
            twins.refused("to -1", x -> x.ride(1, -1), -1);
            twins.refused("TRAIN -1 to -1", x -> x.ride(-1, -1), -1);
            twins.refused("TRAIN 6", x -> x.ride(6, 0), -2);
            twins.refused("TRAIN -1", x -> x.ride(-1, 0), -2);
        }
        LIVELY.refused("TRAIN 3 of three", x -> x.ride(3, 7), -2);
        LIVELY.refused("to AT", x -> x.ride(1, 3), -3);
        LIVELY.refused("where it does not stop", x -> x.ride(0, 5), -3);
        LIVELY.refused("against its way", x -> x.ride(1, 7), -3);
        LIVELY.refused("no TICKET", x -> x.ride(1, 2), -3);
        LIVELY.refused("TICKETS for a part of it", x -> x.ride(2, 5), -3);
    }

    private static void save() {
        D.promise("19, refused");
        for (Twins twins : ALL) {
            twins.refused("save(0)", x -> x.save(0), -1);
            twins.refused("save(-1)", x -> x.save(-1), -1);
            twins.refused("save(10000)", x -> x.save(10_000), -1);
        }
    }

    private static void passAndUndo() {
        D.promise("20, 21, refused");
        FULL.refused("pass() on DAY 999", SplitFares::pass, -3);
        BARE.refused("undo() of nothing", SplitFares::undo, -3);
        Twins behindTerms = new Twins(D, () -> {
            SplitFares x = Offices.lively();
            x.terms(2, 4);
            return x;
        });
        behindTerms.refused("undo() behind terms()", SplitFares::undo, -3);
        Twins behindBack = new Twins(D, () -> {
            SplitFares x = Offices.lively();
            x.back(1);
            return x;
        });
        behindBack.refused("undo() behind back()", SplitFares::undo, -3);
        Twins undone = new Twins(D, () -> {
            SplitFares x = Offices.full();
            for (int n = 0; n < 16; n++) {
                x.undo();
            }
            return x;
        });
        undone.refused("a 17th undo()", SplitFares::undo, -3);
    }

    private static void told() {
        D.promise("32, refused");
        for (Twins twins : ALL) {
            twins.refused("of 8", x -> x.told(8, 0), -1);
            twins.refused("of -1", x -> x.told(-1, 0), -1);
            twins.refused("-2", x -> x.told(0, -2), -1);
            twins.refused("100000", x -> x.told(0, 100_000), -1);
        }
        FULL.refused("a seventh", x -> x.told(0, 0), -5);
        FULL.asked("forget()", SplitFares::forget, 6, "told", "canBe", "ask");
        BARE.asked("forget()", SplitFares::forget, 0);
    }

    private static void months() {
        D.promise("38, refused");
        for (Twins twins : ALL) {
            twins.refused("a SEED -1", x -> x.months(-1, 1), -1);
            twins.refused("a SEED 1000001", x -> x.months(1_000_001, 1), -1);
            twins.refused("n 0", x -> x.months(0, 0), -1);
            twins.refused("n 61", x -> x.months(0, 61), -1);
        }
        BARE.refused("without TRAINS", x -> x.months(0, 1), -3);
        FULL.accepted("on paper", x -> x.months(5, 60), 0, "drawn");
    }

    private static void images() {
        D.promise("40, 41, refused");
        for (Twins twins : ALL) {
            twins.refused("image(-1)", x -> x.image(-1), -1);
            twins.refused("image(2)", x -> x.image(2), -1);
            twins.refused("back(-1)", x -> x.back(-1), -1);
            twins.refused("back(2)", x -> x.back(2), -1);
        }
        BARE.refused("back(0) that was not kept", x -> x.back(0), -2);
        BARE.refused("back(1) that was not kept", x -> x.back(1), -2);
        Twins one = new Twins(D, () -> {
            SplitFares x = new SplitFares();
            x.save(1);
            x.image(0);
            x.save(2);
            return x;
        });
        one.refused("back(1) that was not kept", x -> x.back(1), -2);
        LIVELY.accepted("image(0)", x -> x.image(0), 0, "image");
        FULL.accepted("image(1)", x -> x.image(1), 0, "image");
    }

    private static void questions() {
        D.promise("3 to 6, 11, 14, 15, 22 to 31, 34 to 37, 43, questions");
        for (Twins twins : new Twins[] {LIVELY, FULL}) {
            twins.asked("of", x -> x.of(0, 0));
            twins.asked("price", x -> x.price(1, 0, 7));
            twins.asked("isBarred", x -> x.isBarred(0, 0, 0, 7));
            twins.asked("held", x -> x.held(0, 0, 7));
            twins.asked("delays", SplitFares::delays);
            twins.asked("fault", SplitFares::fault);
            twins.asked("stopped", SplitFares::stopped);
            twins.asked("cheapest", x -> x.cheapest(1, 7, 0, 0));
            twins.asked("byAtMost", x -> x.byAtMost(1, 7, 0, 3));
            twins.asked("fewest", x -> x.fewest(1, 7, 0));
            twins.asked("ways", x -> x.ways(1, 7, 0));
            twins.asked("thereAndBack", x -> x.thereAndBack(0, 1, 3, 7));
            twins.asked("saved", x -> x.saved(1, 7, 0));
            twins.asked("bestTrain", x -> x.bestTrain(3, 7));
            twins.asked("mostSaved", x -> x.mostSaved(1, 0));
            twins.asked("purseEnd", SplitFares::purseEnd);
            twins.asked("used", x -> x.used(0, 7, 0));
            twins.asked("canBe", SplitFares::canBe);
            twins.asked("ask", x -> x.ask(0));
            twins.asked("few", x -> x.few(20, 99));
            twins.asked("compare", x -> x.compare(-1, 7, 0));
            twins.asked("drawn", x -> x.drawn(0));
            twins.asked("status", SplitFares::status);
        }
    }

    private static void questionsWithoutAnswer() {
        D.promise("3 to 6, 22 to 31, 35 to 37, NONE");
        for (Twins twins : new Twins[] {LIVELY, FULL}) {
            twins.asked("of", x -> x.of(6, 0), -1);
            twins.asked("price", x -> x.price(2, 0, 7), -1);
            twins.asked("isBarred", x -> x.isBarred(6, 0, 0, 7), -1);
            twins.asked("held", x -> x.held(3, 0, 7), -1);
            twins.asked("cheapest", x -> x.cheapest(6, 7, 0, 0), -1);
            twins.asked("byAtMost", x -> x.byAtMost(1, 7, 0, 8), -1);
            twins.asked("fewest", x -> x.fewest(1, 8, 0), -1);
            twins.asked("ways", x -> x.ways(6, 7, 0), -1);
            twins.asked("thereAndBack", x -> x.thereAndBack(0, 0, 3, 7), -1);
            twins.asked("saved", x -> x.saved(1, 7, 7), -1);
            twins.asked("bestTrain", x -> x.bestTrain(3, 8), -1);
            twins.asked("mostSaved", x -> x.mostSaved(1, 3), -1);
            twins.asked("used", x -> x.used(0, 8, 0), -1);
            twins.asked("ask", x -> x.ask(2), -1);
            twins.asked("few", x -> x.few(21, 99), -1);
            twins.asked("compare", x -> x.compare(6, 7, 0), -1);
        }
    }

    private static void drawnAndCount() {
        D.promise("39, 42, NONE");
        for (Twins twins : ALL) {
            twins.asked("drawn(4)", x -> x.drawn(4), -1);
            twins.asked("drawn(-1)", x -> x.drawn(-1), -1);
            twins.asked("count(17)", x -> x.count(17), -1);
            twins.asked("count(-1)", x -> x.count(-1), -1);
        }
    }
}
