/**
 * Each word of LAWS, wherever a LAW is asked: what a TICKET from 2 to 5, from 5 to 2 COSTS, from which TRAIN it is
 * BARRED. TRAIN 0 goes UP at 8, TRAIN 1 DOWN at 17; it is DAY 3, the MOOD is 6.
 */
public final class LawWordsTest {
    private static final Due D = new Due("LawWordsTest");
    private static final String[] WORDS = {"from", "to", "far", "return", "hour", "day", "mood"};
    private static final int LAST_TRIED = 18;

    private interface Told {
        long by(SplitFares x);
    }

    public static void main(String[] args) {
        costs();
        costsThereAndBack();
        bought();
        bars();
        ridden();
        riddenHalf();
        barsThereAndBack();
        D.end();
    }

    private static SplitFares office(String law) {
        SplitFares x = new SplitFares();
        x.train(Due.stops(2, 5), 1, 8);
        x.train(Due.stops(2, 5), 0, 17);
        x.terms(0, 3);
        x.terms(2, 6);
        Due.force(x, law);
        return x;
    }

    /** AT 5, a RETURN from 2 to 5 used for its way there: its HALF is held. */
    private static SplitFares behindTheWayThere(String law) {
        SplitFares x = new SplitFares();
        x.train(Due.stops(0, 2, 5), 1, 8);
        x.train(Due.stops(2, 5), 0, 17);
        x.terms(0, 3);
        x.terms(2, 6);
        x.buy(0, 0, 2);
        x.buy(1, 2, 5);
        D.due("ride(0, 5)", x.ride(0, 5), 2);
        Due.force(x, law);
        return x;
    }

    /** What the words of a LAW tell, one behind the other. */
    private static int[] words(int sort, int from, int to, int hour) {
        return new int[] {from, to, Math.abs(from - to), sort, hour, 3, 6};
    }

    // ---- "costs"

    private static void each(String place, int sort, int from, int to, Told told) {
        int[] due = words(sort, from, to, -1);
        for (int i = 0; i < WORDS.length; i++) {
            D.due(place + " by " + WORDS[i], told.by(office("costs 50 + " + WORDS[i])), 50 + due[i]);
        }
    }

    private static void costs() {
        D.promise("II, 4, 17, 22, 23, 37: \"costs\" asked of a TICKET from, to, far, return, hour -1, day, mood");
        for (int sort = 0; sort < 2; sort++) {
            int kind = sort;
            each("price UP", sort, 2, 5, x -> x.price(kind, 2, 5));
            each("price DOWN", sort, 5, 2, x -> x.price(kind, 5, 2));
            each("price to the next", sort, 6, 7, x -> x.price(kind, 6, 7));
            each("buy UP", sort, 2, 5, x -> 1000 - x.buy(kind, 2, 5));
            each("buy DOWN", sort, 7, 0, x -> 1000 - x.buy(kind, 7, 0));
        }
        each("cheapest UP", 0, 2, 5, x -> x.cheapest(0, 2, 5, -1));
        each("cheapest DOWN", 0, 5, 2, x -> x.cheapest(1, 5, 2, -1));
        each("byAtMost UP", 0, 2, 5, x -> x.byAtMost(0, 2, 5, 1));
        each("byAtMost DOWN", 0, 5, 2, x -> x.byAtMost(1, 5, 2, 1));
        each("compare UP", 0, 2, 5, x -> {
            x.force(-1);
            return x.compare(0, 2, 5);
        });
        each("compare DOWN", 0, 5, 2, x -> x.compare(0, 5, 2));
    }

    private static void costsThereAndBack() {
        D.promise("26: \"costs\" of SINGLES there and back, of a RETURN for its way there");
        for (int i = 0; i < WORDS.length; i++) {
            String word = WORDS[i];
            int up = words(0, 2, 5, -1)[i];
            int down = words(0, 5, 2, -1)[i];
            String singles = "costs 50 + " + word + "; costs 1000 if return = 1";
            D.due("SINGLES from 2 by " + word, office(singles).thereAndBack(0, 1, 2, 5), 100 + up + down);
            D.due("SINGLES from 5 by " + word, office(singles).thereAndBack(1, 0, 5, 2), 100 + up + down);
            String returns = "costs 50 + " + word + "; costs 1000 if return = 0";
            D.due("a RETURN from 2 by " + word, office(returns).thereAndBack(0, 1, 2, 5), 50 + words(1, 2, 5, -1)[i]);
            D.due("a RETURN from 5 by " + word, office(returns).thereAndBack(1, 0, 5, 2), 50 + words(1, 5, 2, -1)[i]);
        }
    }

    /** What is bought is asked of as it is bought, whatever TRAIN it is for. */
    private static void bought() {
        D.promise("13, 17, 38: by ORDERS and in MONTHS as by buy()");
        for (int i = 0; i < WORDS.length; i++) {
            for (int sort = 0; sort < 2; sort++) {
                SplitFares x = office("costs 50 + " + WORDS[i]);
                Due.orders(x, (sort == 0 ? "single" : "return") + " 2 to 5");
                D.due("ORDERS by " + WORDS[i], 1000 - x.count(2), 50 + words(sort, 2, 5, -1)[i]);
            }
            // SEED 0: the first DRAW of MONTHS is a RETURN from AT to 1
            SplitFares x = office("costs 50 + " + WORDS[i]);
            x.months(0, 1);
            D.due("MONTHS by " + WORDS[i], 1000 - x.drawn(0), 50 + words(1, 0, 1, -1)[i]);
        }
    }

    // ---- "bars"

    private interface Maker {
        SplitFares by(String law);
    }

    /** BARRED by a word that tells just that number, by no other. */
    private static void each(String place, int[] words, Maker maker, Told told, long barred, long good) {
        for (int i = 0; i < WORDS.length; i++) {
            for (int n = -1; n <= LAST_TRIED; n++) {
                String law = "bars if " + WORDS[i] + " = " + (n < 0 ? "0 - 1" : "" + n);
                D.due(place + ", " + law, told.by(maker.by(law)), n == words[i] ? barred : good);
            }
        }
    }

    private static void bars() {
        D.promise("II, 5, 22 to 28: \"bars\" asked of a TICKET from, to, far, return, hour, day, mood");
        for (int sort = 0; sort < 2; sort++) {
            int kind = sort;
            each("isBarred UP", words(sort, 2, 5, 8), LawWordsTest::office, x -> x.isBarred(0, kind, 2, 5), 1, 0);
            each("isBarred DOWN", words(sort, 5, 2, 17), LawWordsTest::office, x -> x.isBarred(1, kind, 5, 2), 1, 0);
            each("isBarred where it does not go", words(sort, 7, 1, 8), LawWordsTest::office, x -> x.isBarred(0, kind, 7, 1), 1, 0);
        }
        each("cheapest UP", words(0, 2, 5, 8), LawWordsTest::office, x -> x.cheapest(0, 2, 5, -1), -1, 30);
        each("cheapest DOWN", words(0, 5, 2, 17), LawWordsTest::office, x -> x.cheapest(1, 5, 2, -1), -1, 30);
        each("byAtMost", words(0, 2, 5, 8), LawWordsTest::office, x -> x.byAtMost(0, 2, 5, 7), -1, 30);
        each("fewest", words(0, 5, 2, 17), LawWordsTest::office, x -> x.fewest(1, 5, 2), -1, 1);
        each("ways", words(0, 2, 5, 8), LawWordsTest::office, x -> x.ways(0, 2, 5), 0, 1);
        each("saved", words(0, 5, 2, 17), LawWordsTest::office, x -> x.saved(1, 5, 2), -1, 0);
        each("bestTrain", words(0, 2, 5, 8), LawWordsTest::office, x -> x.bestTrain(2, 5), -1, 0);
        each("mostSaved", words(0, 5, 2, 17), LawWordsTest::office, x -> x.mostSaved(1, 1), -1, 5);
    }

    private static void ridden() {
        D.promise("18, 31: a SINGLE, a RETURN that is held, BARRED from the TRAIN or not");
        for (int sort = 0; sort < 2; sort++) {
            int kind = sort;
            // AT 5 first, by a SINGLE from 0 to 5; the LAW is in FORCE behind that ride
            Maker atFive = law -> {
                SplitFares x = new SplitFares();
                x.train(Due.stops(0, 5), 1, 8);
                x.train(Due.stops(2, 5), 0, 17);
                x.terms(0, 3);
                x.terms(2, 6);
                x.buy(0, 0, 5);
                x.ride(0, 5);
                x.buy(kind, 5, 2);
                Due.force(x, law);
                return x;
            };
            each("ride", words(sort, 5, 2, 17), atFive, x -> x.ride(1, 2), -3, 1);
            each("used", words(sort, 5, 2, 17), atFive, x -> x.used(1, 2, -1), -1, 1);
        }
    }

    private static void riddenHalf() {
        D.promise("II, 18, 31: of a HALF as of its RETURN, from and to are those of the RETURN");
        each("ride by a HALF", words(1, 2, 5, 17), LawWordsTest::behindTheWayThere, x -> x.ride(1, 2), -3, 1);
        each("used of a HALF", words(1, 2, 5, 17), LawWordsTest::behindTheWayThere, x -> x.used(1, 2, -1), -1, 1);
    }

    private static void barsThereAndBack() {
        D.promise("26: a RETURN, BARRED from neither TRAIN, asked for its way there");
        int[] there = words(1, 2, 5, 8);
        int[] back = words(1, 2, 5, 17);
        for (int i = 0; i < WORDS.length; i++) {
            for (int n = -1; n <= LAST_TRIED; n++) {
                String law = "costs 100 - 60 * return; bars if return = 1 and " + WORDS[i] + " = " + (n < 0 ? "0 - 1" : "" + n);
                boolean barred = n == there[i] || n == back[i];
                D.due("a RETURN, " + law, office(law).thereAndBack(0, 1, 2, 5), barred ? 200 : 40);
                String singles = "costs 100 + 300 * return; bars if return = 0 and " + WORDS[i] + " = " + (n < 0 ? "0 - 1" : "" + n);
                boolean singlesBarred = n == words(0, 2, 5, 8)[i] || n == words(0, 5, 2, 17)[i];
                D.due("SINGLES, " + singles, office(singles).thereAndBack(0, 1, 2, 5), singlesBarred ? 400 : 200);
            }
        }
    }
}
