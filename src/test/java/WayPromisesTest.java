/** Promises 22 to 30 and 34 to 37: WAYS on paper, which TRAIN it is, FEW, COMPARED. */
public final class WayPromisesTest {
    private static final Due D = new Due("WayPromisesTest");

    public static void main(String[] args) {
        cheapest();
        bySeven();
        firstOfTheCheapest();
        byAtMost();
        fewestAndWays();
        thereAndBack();
        thereAndBackBarred();
        saved();
        bestTrain();
        mostSaved();
        purseEnd();
        canBe();
        ask();
        few();
        compare();
        D.end();
    }

    /** TRAINS up and down that stop everywhere, far journeys dear. */
    private static SplitFares line(String law) {
        SplitFares x = new SplitFares();
        x.train(255, 1, 8);
        x.train(255, 0, 17);
        Due.force(x, law);
        return x;
    }

    private static void cheapest() {
        D.promise("22");
        SplitFares x = line("costs far * far * 5; costs 6 if from = 2 and to = 5; bars if far = 1 and from = 5 and hour = 8");
        D.due("cheapest(0, 0, 5, -1)", x.cheapest(0, 0, 5, -1), 16);
        D.due("cheapest(0, 0, 5, 0)", x.cheapest(0, 0, 5, 0), 1);
        D.due("cheapest(0, 0, 5, 1)", x.cheapest(0, 0, 5, 1), 2);
        D.due("cheapest(0, 0, 5, 2)", x.cheapest(0, 0, 5, 2), 5);
        D.due("cheapest(0, 0, 5, 3)", x.cheapest(0, 0, 5, 3), -1);
        D.due("cheapest(0, 0, 5, -2)", x.cheapest(0, 0, 5, -2), -1);
        D.due("round what is barred", x.cheapest(0, 4, 7, -1), 25);
        D.due("by 5 and by 6 alike", x.cheapest(0, 4, 7, 0), 5);
        D.due("another hour", x.cheapest(1, 5, 2, -1), 15);
        D.due("cheapest(0, 5, 6, -1)", x.cheapest(0, 5, 6, -1), -1);
        D.due("cheapest(0, 5, 6, 0)", x.cheapest(0, 5, 6, 0), -1);
        D.due("against its way", x.cheapest(1, 0, 5, -1), -1);
        D.due("cheapest(2, 0, 5, -1)", x.cheapest(2, 0, 5, -1), -1);
        D.due("cheapest(-1, 0, 5, -1)", x.cheapest(-1, 0, 5, -1), -1);
        D.due("cheapest(0, 0, 0, -1)", x.cheapest(0, 0, 0, -1), -1);
        D.due("cheapest(0, 0, 8, -1)", x.cheapest(0, 0, 8, -1), -1);
        D.due("cheapest(0, -1, 5, -1)", x.cheapest(0, -1, 5, -1), -1);
        x.buy(0, 0, 5);
        D.due("nothing being held", x.cheapest(0, 0, 5, -1), 16);
        x.train(Due.stops(0, 3, 5), 1, 8);
        D.due("only where it stops", x.cheapest(2, 0, 5, -1), 65);
        D.due("where it does not stop", x.cheapest(2, 0, 4, -1), -1);
    }

    private static void bySeven() {
        D.promise("22, 26, 28, 34");
        SplitFares x = new SplitFares();
        x.train(Due.stops(0, 1, 2, 3, 4, 5, 7), 1, 8);
        x.train(255, 1, 8);
        x.train(255, 0, 8);
        Due.force(x, "costs far * far; bars if return = 1");
        D.due("cheapest(1, 0, 7, -1)", x.cheapest(1, 0, 7, -1), 7);
        D.due("cheapest(1, 0, 7, 6)", x.cheapest(1, 0, 7, 6), 7);
        D.due("cheapest(1, 0, 7, 7)", x.cheapest(1, 0, 7, 7), -1);
        D.due("bestTrain(0, 7)", x.bestTrain(0, 7), 1);
        D.due("thereAndBack(1, 2, 0, 7)", x.thereAndBack(1, 2, 0, 7), 14);
        x.told(7, 7);
        D.due("canBe()", x.canBe(), 2);
    }

    private static void firstOfTheCheapest() {
        D.promise("22");
        SplitFares x = line("costs 10 * far; costs 0 if from = 3 and to = 4; costs 9 * far if far = 2 and from = 4");
        D.due("cost", x.cheapest(0, 0, 7, -1), 30 + 0 + 18 + 10);
        int[] stations = {1, 2, 3, 4, 6, 7, -1};
        for (int i = 0; i < stations.length; i++) {
            D.due("cheapest(0, 0, 7, " + i + ")", x.cheapest(0, 0, 7, i), stations[i]);
        }
        Due.force(x, "costs 0");
        for (int i = 0; i < 7; i++) {
            D.due("the sooner first", x.cheapest(0, 0, 7, i), i + 1);
            D.due("the sooner first, down", x.cheapest(1, 7, 0, i), 6 - i);
        }
        Due.force(x, "costs 10 * far + 1");
        D.due("one", x.cheapest(0, 0, 7, 0), 7);
        Due.force(x, "costs 5; bars if far > 4 or far < 3");
        D.due("by 3 and 4", x.cheapest(0, 0, 7, 0), 3);
        D.due("by 4 and 3", x.cheapest(1, 7, 0, 0), 4);
    }

    private static void byAtMost() {
        D.promise("23");
        SplitFares x = line("costs far * far");
        int[] due = {49, 25, 17, 13, 11, 9, 7};
        for (int k = 1; k <= 7; k++) {
            D.due("byAtMost(0, 0, 7, " + k + ")", x.byAtMost(0, 0, 7, k), due[k - 1]);
            D.due("byAtMost(1, 7, 0, " + k + ")", x.byAtMost(1, 7, 0, k), due[k - 1]);
        }
        D.due("byAtMost(0, 0, 2, 7)", x.byAtMost(0, 0, 2, 7), 2);
        D.due("byAtMost(0, 0, 7, 0)", x.byAtMost(0, 0, 7, 0), -1);
        D.due("byAtMost(0, 0, 7, 8)", x.byAtMost(0, 0, 7, 8), -1);
        D.due("byAtMost(0, 0, 7, -1)", x.byAtMost(0, 0, 7, -1), -1);
        D.due("byAtMost(0, 7, 0, 3)", x.byAtMost(0, 7, 0, 3), -1);
        D.due("byAtMost(2, 0, 7, 3)", x.byAtMost(2, 0, 7, 3), -1);
        D.due("byAtMost(0, 0, 0, 3)", x.byAtMost(0, 0, 0, 3), -1);
        D.due("byAtMost(0, 0, 9, 3)", x.byAtMost(0, 0, 9, 3), -1);
        Due.force(x, "costs far * far; bars if far > 2");
        D.due("byAtMost(0, 0, 7, 3)", x.byAtMost(0, 0, 7, 3), -1);
        D.due("byAtMost(0, 0, 7, 4)", x.byAtMost(0, 0, 7, 4), 13);
    }

    private static void fewestAndWays() {
        D.promise("24, 25");
        SplitFares x = line("costs far * far; bars if far > 2 and return = 0 and hour = 8");
        D.due("fewest(0, 0, 7)", x.fewest(0, 0, 7), 4);
        D.due("fewest(0, 0, 2)", x.fewest(0, 0, 2), 1);
        D.due("fewest(1, 7, 0)", x.fewest(1, 7, 0), 1);
        D.due("fewest(0, 7, 0)", x.fewest(0, 7, 0), -1);
        D.due("fewest(2, 0, 7)", x.fewest(2, 0, 7), -1);
        D.due("fewest(0, 0, 8)", x.fewest(0, 0, 8), -1);
        D.due("fewest(0, 3, 3)", x.fewest(0, 3, 3), -1);
        D.due("ways(0, 0, 7): steps of 1 and 2", x.ways(0, 0, 7), 21);
        D.due("ways(1, 7, 0)", x.ways(1, 7, 0), 64);
        D.due("ways(0, 3, 4)", x.ways(0, 3, 4), 1);
        D.due("ways(0, 7, 0)", x.ways(0, 7, 0), 0);
        D.due("ways(2, 0, 7)", x.ways(2, 0, 7), -1);
        D.due("ways(-1, 0, 7)", x.ways(-1, 0, 7), -1);
        D.due("ways(0, 0, 8)", x.ways(0, 0, 8), -1);
        D.due("ways(0, -1, 5)", x.ways(0, -1, 5), -1);
        D.due("ways(0, 3, 3)", x.ways(0, 3, 3), -1);
        x.train(Due.stops(1, 4, 6), 1, 3);
        D.due("where it does not stop", x.ways(2, 1, 5), 0);
        D.due("ways(2, 1, 6)", x.ways(2, 1, 6), 2);
        Due.force(x, "bars");
        D.due("ways(0, 0, 7)", x.ways(0, 0, 7), 0);
        D.due("fewest(0, 0, 7)", x.fewest(0, 0, 7), -1);
        Due.force(x, "bars if far = 7");
        D.due("fewest(0, 0, 7)", x.fewest(0, 0, 7), 2);
        D.due("ways(0, 0, 7)", x.ways(0, 0, 7), 63);
    }

    private static void thereAndBack() {
        D.promise("26");
        SplitFares x = new SplitFares();
        x.train(255, 1, 8);
        x.train(255, 0, 17);
        x.train(Due.stops(0, 2, 7), 0, 17);
        D.due("returns all the way", x.thereAndBack(0, 1, 0, 7), 105);
        D.due("down first", x.thereAndBack(1, 0, 7, 0), 105);
        D.due("thereAndBack(0, 2, 0, 7)", x.thereAndBack(0, 2, 0, 7), 105);
        D.due("the same train", x.thereAndBack(0, 0, 0, 7), -1);
        D.due("both down", x.thereAndBack(1, 2, 7, 0), -1);
        D.due("against its way", x.thereAndBack(1, 0, 0, 7), -1);
        D.due("where one does not stop", x.thereAndBack(0, 2, 0, 5), -1);
        D.due("thereAndBack(0, 3, 0, 7)", x.thereAndBack(0, 3, 0, 7), -1);
        D.due("thereAndBack(3, 1, 0, 7)", x.thereAndBack(3, 1, 0, 7), -1);
        D.due("thereAndBack(-1, 1, 0, 7)", x.thereAndBack(-1, 1, 0, 7), -1);
        D.due("thereAndBack(0, 1, 3, 3)", x.thereAndBack(0, 1, 3, 3), -1);
        D.due("thereAndBack(0, 1, 8, 3)", x.thereAndBack(0, 1, 8, 3), -1);
        D.due("thereAndBack(0, 1, 3, -1)", x.thereAndBack(0, 1, 3, -1), -1);
        // SINGLES of 1 for short legs, a RETURN that is cheap for one long leg alone
        Due.force(x, "costs far * far * 10; costs 100; costs 1 if far = 1 and return = 0; costs 2 if from = 2 and to = 6 and return = 1; costs 3 if from = 6 and to = 2 and return = 1");
        D.due("0 to 2, 6 to 7 by SINGLES, 2 to 6 by a RETURN", x.thereAndBack(0, 1, 0, 7), 3 + 2 + 3);
        D.due("asked for its way there", x.thereAndBack(1, 0, 7, 0), 3 + 3 + 3);
        D.due("2 to 6 alone", x.thereAndBack(0, 1, 2, 6), 2);
        D.due("inside of it a RETURN is no good", x.thereAndBack(0, 1, 3, 6), 6);
        Due.force(x, "costs 1 if return = 1; costs 50 if return = 0");
        D.due("a RETURN is never for one leg alone", x.thereAndBack(0, 2, 0, 2), 1);
        x.train(Due.stops(0, 1), 1, 0);
        x.train(Due.stops(0, 1, 2), 1, 0);
        D.due("one RETURN", x.thereAndBack(4, 2, 0, 2), 1);
        Due.force(x, "costs 1 if return = 1; costs 50 if return = 0; bars if far = 2 and hour = 0");
        D.due("WAYS with no leg alike", x.thereAndBack(4, 2, 0, 2), 150);
    }

    private static void thereAndBackBarred() {
        D.promise("26");
        SplitFares x = line("bars if return = 0");
        D.due("legs of which the SINGLES are BARRED", x.thereAndBack(0, 1, 0, 7), 105);
        Due.force(x, "bars if return = 1 and hour = 8");
        D.due("RETURNS barred there", x.thereAndBack(0, 1, 0, 7), 140);
        Due.force(x, "bars if return = 1 and hour = 17");
        D.due("RETURNS barred back", x.thereAndBack(0, 1, 0, 7), 140);
        Due.force(x, "bars if return = 1 and from < to and hour = 17");
        D.due("a RETURN's way there is asked on the train back", x.thereAndBack(0, 1, 0, 7), 140);
        D.due("down first", x.thereAndBack(1, 0, 7, 0), 105);
        Due.force(x, "bars if return = 0 and hour = 17; bars if return = 1 and far > 1");
        D.due("RETURNS from each STATION to the next", x.thereAndBack(0, 1, 0, 7), 105);
        Due.force(x, "bars if return = 0 and hour = 17; bars if return = 1 and from = 2");
        D.due("a longer one round it", x.thereAndBack(0, 1, 0, 7), 105);
        D.due("it can't be", x.thereAndBack(0, 1, 2, 3), -1);
    }

    private static void saved() {
        D.promise("27");
        SplitFares x = line("costs far * far; bars if far = 3 and hour = 8");
        D.due("saved(0, 0, 7)", x.saved(0, 0, 7), 42);
        D.due("saved(0, 0, 2)", x.saved(0, 0, 2), 2);
        D.due("saved(0, 0, 1)", x.saved(0, 0, 1), 0);
        D.due("barred, and there is another WAY", x.saved(0, 0, 3), 0);
        D.due("saved(1, 3, 0)", x.saved(1, 3, 0), 6);
        D.due("saved(0, 7, 0)", x.saved(0, 7, 0), -1);
        D.due("saved(2, 0, 7)", x.saved(2, 0, 7), -1);
        D.due("saved(0, 7, 7)", x.saved(0, 7, 7), -1);
        D.due("saved(0, 0, 8)", x.saved(0, 0, 8), -1);
        Due.force(x, "bars if far > 1 or from = 3");
        D.due("saved(0, 0, 3)", x.saved(0, 0, 3), 0);
        D.due("no WAY", x.saved(0, 0, 4), -1);
    }

    private static void bestTrain() {
        D.promise("28");
        SplitFares x = new SplitFares();
        D.due("bestTrain(0, 7)", x.bestTrain(0, 7), -1);
        x.train(255, 0, 8);
        x.train(Due.stops(0, 7), 1, 8);
        x.train(Due.stops(0, 3, 7), 1, 9);
        x.train(Due.stops(0, 4, 7), 1, 10);
        D.due("the lowest", x.bestTrain(0, 7), 1);
        D.due("bestTrain(7, 0)", x.bestTrain(7, 0), 0);
        D.due("bestTrain(4, 7)", x.bestTrain(4, 7), 3);
        D.due("bestTrain(1, 7)", x.bestTrain(1, 7), -1);
        D.due("bestTrain(7, 7)", x.bestTrain(7, 7), -1);
        D.due("bestTrain(8, 7)", x.bestTrain(8, 7), -1);
        D.due("bestTrain(0, -1)", x.bestTrain(0, -1), -1);
        Due.force(x, "costs far * far");
        D.due("the least", x.bestTrain(0, 7), 2);
        Due.force(x, "costs far * far; bars if hour = 9");
        D.due("not barred", x.bestTrain(0, 7), 3);
        Due.force(x, "costs 0; bars if hour = 8");
        D.due("for nothing", x.bestTrain(0, 7), 2);
    }

    private static void mostSaved() {
        D.promise("29");
        SplitFares x = line("costs far * far; bars if far = 7; bars if from = 4 and to = 5 and hour = 8");
        D.due("mostSaved(0, 0): from 0 to 6 by 1 2 3 5 6 for 8", x.mostSaved(0, 0), 36 - 8);
        D.due("mostSaved(0, 1)", x.mostSaved(0, 1), 0);
        D.due("mostSaved(0, 2)", x.mostSaved(0, 2), 6);
        D.due("mostSaved(1, 0)", x.mostSaved(1, 0), 30);
        D.due("mostSaved(1, 1)", x.mostSaved(1, 1), 6);
        D.due("mostSaved(1, 2)", x.mostSaved(1, 2), 0);
        D.due("mostSaved(0, 3)", x.mostSaved(0, 3), -1);
        D.due("mostSaved(0, -1)", x.mostSaved(0, -1), -1);
        D.due("mostSaved(2, 0)", x.mostSaved(2, 0), -1);
        D.due("mostSaved(-1, 1)", x.mostSaved(-1, 1), -1);
        x.force(-1);
        D.due("nothing saved", x.mostSaved(0, 0), 0);
        D.due("the lowest p", x.mostSaved(0, 1), 0);
        D.due("the lowest q", x.mostSaved(0, 2), 1);
        D.due("the lowest p, down", x.mostSaved(1, 1), 1);
        D.due("the lowest q, down", x.mostSaved(1, 2), 0);
        Due.force(x, "bars if from < 5");
        D.due("the lowest p with a WAY", x.mostSaved(0, 1), 5);
        D.due("the lowest q with a WAY", x.mostSaved(0, 2), 6);
        Due.force(x, "bars");
        D.due("no WAY", x.mostSaved(0, 0), -1);
        D.due("no WAY", x.mostSaved(0, 1), -1);
        D.due("no WAY", x.mostSaved(0, 2), -1);
        Due.force(x, "costs 9; costs 20 if from = 3 and to = 5; costs 20 if from = 2 and to = 7; costs 20 if from = 2 and to = 4");
        D.due("ties", x.mostSaved(0, 0), 2);
        D.due("lowest p first", x.mostSaved(0, 1), 2);
        D.due("then lowest q", x.mostSaved(0, 2), 4);
    }

    private static void purseEnd() {
        D.promise("30");
        SplitFares x = new SplitFares();
        x.train(Due.stops(0, 2, 4), 1, 8);
        x.train(Due.stops(0, 1, 7), 1, 8);
        x.train(Due.stops(4, 5), 1, 8);
        D.due("purseEnd()", x.purseEnd(), Due.stops(0, 1, 2, 4, 7));
        Due.force(x, "costs 500 * far; costs 50 if from = 1; costs 501 if from = 0 and to = 2");
        D.due("for 1,000: to 7 by 1, not to 4", x.purseEnd(), Due.stops(0, 1, 2, 7));
        x.buy(0, 5, 6);
        D.due("for 500: as much as is in it", x.purseEnd(), Due.stops(0, 1));
        x.save(50);
        D.due("for 550", x.purseEnd(), Due.stops(0, 1, 2, 7));
        Due.force(x, "bars");
        D.due("AT", x.purseEnd(), 1);
        Due.force(x, "costs 0");
        x.buy(0, 0, 4);
        x.ride(0, 4);
        D.due("from 4", x.purseEnd(), Due.stops(4, 5));
    }

    private static void canBe() {
        D.promise("34");
        SplitFares x = new SplitFares();
        D.due("canBe()", x.canBe(), 0);
        x.train(Due.stops(0, 2, 4), 1, 8);
        x.train(Due.stops(0, 1, 4), 1, 9);
        x.train(Due.stops(0, 2, 4), 0, 10);
        D.due("canBe()", x.canBe(), 7);
        x.told(4, 40);
        D.due("told(4, 40)", x.canBe(), 3);
        x.told(2, -1);
        D.due("told(2, -1)", x.canBe(), 2);
        x.told(0, -1);
        D.due("to AT itself there is none", x.canBe(), 2);
        x.told(0, 0);
        D.due("it costs nothing: no", x.canBe(), 0);
        x.forget();
        x.told(4, -1);
        D.due("told(4, -1)", x.canBe(), 4);
        x.buy(0, 0, 4);
        x.ride(0, 4);
        D.due("AT as it is now", x.canBe(), 7);
        x.told(2, 20);
        D.due("told(2, 20)", x.canBe(), 4);
        Due.force(x, "costs 7");
        D.due("laws as they are now", x.canBe(), 0);
        x.forget();
        x.told(0, 7);
        D.due("told(0, 7)", x.canBe(), 4);
    }

    private static void ask() {
        D.promise("35");
        SplitFares x = new SplitFares();
        D.due("ask(0)", x.ask(0), -1);
        D.due("ask(1)", x.ask(1), -1);
        x.train(Due.stops(0, 3, 5), 1, 8);
        D.due("one TRAIN: the lowest STATION", x.ask(0), 0);
        D.due("ask(1)", x.ask(1), 1);
        x.train(Due.stops(0, 3, 6), 1, 8);
        x.train(Due.stops(0, 5, 6), 1, 8);
        x.train(Due.stops(0, 2, 6), 1, 8);
        x.train(Due.stops(5, 6), 1, 8);
        // 3: 30, 30, none, none, none; 5: 50, none, 50, none, none; 6: none, 60, 60, 60, none
        D.due("ask(0)", x.ask(0), 3);
        D.due("ask(1)", x.ask(1), 3);
        D.due("ask(2)", x.ask(2), -1);
        D.due("ask(-1)", x.ask(-1), -1);
        Due.force(x, "costs far * far; costs 5 if to = 5 and from = 0");
        // 6: none, 18, 6, 20, none
        D.due("ask(0)", x.ask(0), 6);
        D.due("ask(1)", x.ask(1), 2);
        x.told(6, 18);
        D.due("only those that can be", x.ask(1), 1);
        D.due("ask(0)", x.ask(0), 0);
        x.told(6, 19);
        D.due("it can be none", x.ask(0), -1);
        D.due("it can be none", x.ask(1), -1);
        x.forget();
        D.due("status()", x.status(), 0);
    }

    private static void few() {
        D.promise("36");
        SplitFares x = new SplitFares();
        long whole = 1_000_000_000_000L;
        D.due("few(1, 0)", x.few(1, 0), whole);
        D.due("few(1, 1)", x.few(1, 1), 900_000_000_000L);
        D.due("few(2, 2)", x.few(2, 2), 990_000_000_000L);
        D.due("few(1, 12): 0.9 ^ 12", x.few(1, 12), 282_429_536_481L);
        D.due("few(1, 13), cut", x.few(1, 13), 254_186_582_832L);
        D.due("few(20, 0)", x.few(20, 0), whole);
        D.due("few(20, 19)", x.few(20, 12), whole);
        D.due("few(0, 1)", x.few(0, 1), -1);
        D.due("few(21, 1)", x.few(21, 1), -1);
        D.due("few(1, -1)", x.few(1, -1), -1);
        D.due("few(1, 100)", x.few(1, 100), -1);
        Model m = new Model();
        for (int checks = 0; checks <= 10; checks++) {
            SplitFares y = new SplitFares();
            y.terms(1, checks);
            m.terms(1, checks);
            for (int k = 1; k <= 20; k += 3) {
                for (int n = 0; n < 100; n += 11) {
                    D.due("few(" + k + ", " + n + ") by " + checks, y.few(k, n), m.few(k, n));
                }
            }
        }
        x.terms(1, 0);
        D.due("never checked", x.few(1, 99), whole);
        x.terms(1, 10);
        D.due("always checked", x.few(20, 20), 0);
        D.due("always checked", x.few(20, 19), whole);
        x.terms(1, 3);
        D.due("few(1, 2)", x.few(1, 2), 490_000_000_000L);
        D.due("few(2, 3)", x.few(2, 3), 784_000_000_000L);
    }

    private static void compare() {
        D.promise("37");
        SplitFares x = new SplitFares();
        D.due("compare(-1, 0, 7)", x.compare(-1, 0, 7), 70);
        D.due("compare(0, 0, 7)", x.compare(0, 0, 7), -1);
        Due.law(x, "costs 5 if return = 0; costs 6 if return = 1");
        Due.law(x, "costs day * 100 + mood");
        x.terms(0, 3);
        x.terms(2, 4);
        x.force(1);
        D.due("compare(0, 0, 7)", x.compare(0, 0, 7), 5);
        D.due("compare(1, 7, 0)", x.compare(1, 7, 0), 304);
        D.due("compare(-1, 7, 0)", x.compare(-1, 7, 0), 70);
        D.due("compare(2, 7, 0)", x.compare(2, 7, 0), -1);
        D.due("compare(-2, 7, 0)", x.compare(-2, 7, 0), -1);
        D.due("compare(0, 3, 3)", x.compare(0, 3, 3), -1);
        D.due("compare(0, 3, 8)", x.compare(0, 3, 8), -1);
        D.due("compare(-1, -1, 3)", x.compare(-1, -1, 3), -1);
        D.due("it leaves the one in force", x.count(13), 1);
    }
}
