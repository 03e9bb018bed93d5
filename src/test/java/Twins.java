import java.util.ArrayList;
import java.util.Arrays;
import java.util.List;
import java.util.function.Supplier;

/**
 * Two objects made alike, one of which takes a call more: what that call leaves as it was answers
 * alike in both. All that can be asked is asked, by so many objects that none takes more than 512 calls.
 */
final class Twins {
    interface Call {
        long on(SplitFares x);
    }

    private interface Part {
        void ask(SplitFares x, Answers all);
    }

    /** What was asked, what was answered; kinds of questions may be left out. */
    private static final class Answers {
        private final List<String> leftOut;
        final List<String> questions = new ArrayList<>();
        final List<Long> told = new ArrayList<>();

        Answers(List<String> leftOut) {
            this.leftOut = leftOut;
        }

        void add(String kind, long answer, int... given) {
            if (!leftOut.contains(kind)) {
                questions.add(kind + Arrays.toString(given));
                told.add(answer);
            }
        }
    }

    private static final int[] CODES = {-1, -2, -3, -5, -6};
    private static final Part[] PARTS = {
        Twins::askSmall, Twins::askTrains, Twins::askPrices, Twins::askHeld,
        (x, all) -> askBarred(x, all, 0), (x, all) -> askBarred(x, all, 1), Twins::askCheapest, Twins::askLaws,
        Twins::askUndone, (x, all) -> askImage(x, all, 0), (x, all) -> askImage(x, all, 1),
        Twins::askLawText, Twins::askOrdersText, Twins::askRow};

    private final Due due;
    private final Supplier<SplitFares> maker;

    Twins(Due due, Supplier<SplitFares> maker) {
        this.due = due;
        this.maker = maker;
    }

    /** The call is REFUSED by that code, and counted so; all is as it was, but for what is left out. */
    void refused(String name, Call call, int code, String... leftOut) {
        SplitFares x = maker.get();
        SplitFares y = maker.get();
        due.due(name, call.on(x), code);
        due.due("status() behind " + name, x.status(), code);
        for (int i = 0; i < CODES.length; i++) {
            int more = CODES[i] == code ? 1 : 0;
            due.due("count(" + (8 + i) + ") behind " + name, x.count(8 + i), y.count(8 + i) + more);
        }
        alike(name, call, leftOut);
    }

    /** The call is not REFUSED, status() tells so, nothing is counted; what is not left out is as it was. */
    void accepted(String name, Call call, long answer, String... leftOut) {
        SplitFares x = maker.get();
        due.due(name, call.on(x), answer);
        due.due("status() behind " + name, x.status(), 0);
        sameRefusals(name, x);
        alike(name, call, leftOut);
    }

    /** The call is a question, or one that status() does not tell of: that is as it was, too. */
    void asked(String name, Call call, long answer, String... leftOut) {
        due.due(name, call.on(maker.get()), answer);
        asked(name, call, leftOut);
    }

    void asked(String name, Call call, String... leftOut) {
        SplitFares x = maker.get();
        call.on(x);
        due.due("status() behind " + name, x.status(), maker.get().status());
        sameRefusals(name, x);
        alike(name, call, leftOut);
    }

    private void sameRefusals(String name, SplitFares x) {
        SplitFares y = maker.get();
        for (int what = 8; what <= 12; what++) {
            due.due("count(" + what + ") behind " + name, x.count(what), y.count(what));
        }
    }

    private void alike(String name, Call call, String... leftOut) {
        for (Part part : PARTS) {
            Answers behind = new Answers(Arrays.asList(leftOut));
            Answers without = new Answers(Arrays.asList(leftOut));
            SplitFares x = maker.get();
            call.on(x);
            part.ask(x, behind);
            part.ask(maker.get(), without);
            due.due("how much is asked behind " + name, behind.told.size(), without.told.size());
            for (int i = 0; i < without.told.size() && i < behind.told.size(); i++) {
                due.due(without.questions.get(i) + " behind " + name, behind.told.get(i), without.told.get(i));
            }
        }
    }

    private static void askSmall(SplitFares x, Answers all) {
        String[] kinds = {"trains", "at", "purse", "held", "told", "laws", "undone", "tape"};
        for (int what = 0; what < kinds.length; what++) {
            all.add(kinds[what], x.count(what), what);
        }
        all.add("force", x.count(13));
        for (int what = 0; what < 3; what++) {
            all.add("terms", x.count(14 + what), what);
            all.add("ask", x.ask(what), what);
        }
        for (int what = 0; what < 4; what++) {
            all.add("drawn", x.drawn(what), what);
        }
        all.add("fault", x.fault());
        all.add("stopped", x.stopped());
        all.add("delays", x.delays());
        all.add("canBe", x.canBe());
        all.add("purseEnd", x.purseEnd());
        all.add("few", x.few(1, 5));
        all.add("few", x.few(7, 40));
    }

    private static void askTrains(SplitFares x, Answers all) {
        for (int t = 0; t < 7; t++) {
            for (int what = 0; what < 3; what++) {
                all.add("of", x.of(t, what), t, what);
                all.add("mostSaved", x.mostSaved(t, what), t, what);
            }
            for (int q = 0; q < 8; q++) {
                all.add("used", x.used(t, q, -1), t, q);
                all.add("ways", x.ways(t, 7 - q, q), t, q);
            }
        }
    }

    private static void askPrices(SplitFares x, Answers all) {
        for (int leg = 0; leg < 64; leg++) {
            all.add("price", x.price(0, leg / 8, leg % 8), 0, leg / 8, leg % 8);
            all.add("price", x.price(1, leg / 8, leg % 8), 1, leg / 8, leg % 8);
            all.add("bestTrain", x.bestTrain(leg / 8, leg % 8), leg / 8, leg % 8);
        }
    }

    private static void askHeld(SplitFares x, Answers all) {
        for (int i = 0; i < 192; i++) {
            all.add("held", x.held(i / 64, i / 8 % 8, i % 8), i / 64, i / 8 % 8, i % 8);
        }
    }

    private static void askBarred(SplitFares x, Answers all, int sort) {
        for (int i = 0; i < 384; i++) {
            all.add("isBarred", x.isBarred(i / 64, sort, i / 8 % 8, i % 8), i / 64, sort, i / 8 % 8, i % 8);
        }
    }

    private static void askCheapest(SplitFares x, Answers all) {
        for (int i = 0; i < 384; i++) {
            all.add("cheapest", x.cheapest(i / 64, i / 8 % 8, i % 8, -1), i / 64, i / 8 % 8, i % 8);
        }
    }

    private static void askLaws(SplitFares x, Answers all) {
        for (int law = -1; law < 7; law++) {
            for (int leg = 1; leg < 64; leg += 3) {
                all.add("compare", x.compare(law, leg / 8, leg % 8), law, leg / 8, leg % 8);
            }
        }
    }

    /** All that can be undone, one behind the other. */
    private static void askUndone(SplitFares x, Answers all) {
        for (int n = 0; n < 17; n++) {
            all.add("undone", x.undo(), n);
            all.add("undone", x.count(1), n, 1);
            all.add("undone", x.count(2), n, 2);
            all.add("undone", x.count(3), n, 3);
            all.add("undone", x.count(14), n, 14);
        }
        for (int i = 0; i < 192; i++) {
            all.add("undone", x.held(i / 64, i / 8 % 8, i % 8), i);
        }
    }

    private static void askImage(SplitFares x, Answers all, int k) {
        all.add("image", x.back(k), k);
        for (int what = 0; what < 17; what++) {
            if (what != 7 && (what < 8 || what > 12)) {
                all.add("image", x.count(what), k, what);
            }
        }
        all.add("image", x.canBe(), k);
        for (int t = 0; t < 6; t++) {
            all.add("image", x.of(t, 0), k, t);
        }
        for (int i = 0; i < 192; i++) {
            all.add("image", x.held(i / 64, i / 8 % 8, i % 8), k, i);
        }
        for (int leg = 0; leg < 64; leg++) {
            all.add("image", x.price(0, leg / 8, leg % 8), k, leg);
            all.add("image", x.isBarred(0, 0, leg / 8, leg % 8), k, leg);
        }
    }

    private static void askLawText(SplitFares x, Answers all) {
        int law = x.law();
        all.add("tape", law);
        all.add("tape", x.fault());
        for (int leg = 0; leg < 64; leg++) {
            all.add("tape", x.compare(law, leg / 8, leg % 8), leg);
        }
    }

    private static void askOrdersText(SplitFares x, Answers all) {
        all.add("tape", x.orders());
        all.add("tape", x.fault());
        all.add("tape", x.count(2));
    }

    private static void askRow(SplitFares x, Answers all) {
        int came = x.row();
        all.add("tape", came);
        all.add("tape", came == -6 ? -1 : x.delays());
        for (int t = 0; t < 6; t++) {
            all.add("tape", x.of(t, 0), t);
        }
    }
}
