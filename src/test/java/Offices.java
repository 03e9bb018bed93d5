/** Objects that tests begin with, each made by the same calls every time: a hundred of them at most. */
final class Offices {
    private Offices() {
    }

    /** Two TRAINS that stop everywhere: 0 UP at 8, 1 DOWN at 17. */
    static SplitFares line() {
        SplitFares x = new SplitFares();
        x.train(255, 1, 8);
        x.train(255, 0, 17);
        return x;
    }

    /** Such a line, a LAW in FORCE. */
    static SplitFares line(String law) {
        SplitFares x = line();
        Due.force(x, law);
        return x;
    }

    /** So many of 0 .. 6 TRAINS, UP, stopping everywhere. */
    static SplitFares trains(int n) {
        SplitFares x = new SplitFares();
        for (int i = 0; i < n; i++) {
            x.train(255, 1, i);
        }
        return x;
    }

    /** Something of everything: AT 3, a HALF held, both IMAGES kept, deeds to undo, a LAW's TEXT on the TAPE. */
    static SplitFares lively() {
        SplitFares x = new SplitFares();
        x.train(Due.stops(0, 1, 3, 7), 1, 8);
        x.train(255, 0, 17);
        x.train(Due.stops(2, 3, 5, 7), 1, 9);
        Due.law(x, "costs far * 12; bars if hour = 8 and from = 3 and return = 0");
        Due.force(x, "costs far * far + mood; costs day + 3 if far = 1; bars if far = 7");
        x.terms(2, 4);
        x.terms(1, 3);
        x.terms(0, 5);
        x.told(7, 20);
        x.told(3, -1);
        x.buy(1, 0, 3);
        x.ride(0, 3);
        x.image(0);
        x.save(77);
        x.buy(0, 3, 7);
        x.image(1);
        x.buy(0, 3, 1);
        x.buy(1, 2, 6);
        x.months(99, 20);
        Due.orders(x, "pass; save 0");
        Due.tape(x, "?");
        x.row();
        x.force(4);
        x.told(8, 0);
        Due.law(x, "bars 3");
        Due.tape(x, "costs 7 if from = 3");
        return x;
    }

    /** No room for anything more: six TRAINS, LAWS, TOLD, the PURSE, a sort of TICKETS, the TAPE, DAY 999, 16 deeds. */
    static SplitFares full() {
        SplitFares x = new SplitFares();
        for (int t = 0; t < 6; t++) {
            x.train(255 - t, t % 2, 23 - t);
        }
        for (int n = 0; n < 6; n++) {
            Due.law(x, "costs " + n + " * far");
            x.told(n, 100 * n);
        }
        x.force(5);
        x.terms(0, 999);
        x.terms(1, 10);
        x.terms(2, 9);
        x.image(0);
        x.image(1);
        for (int n = 0; n < 10; n++) {
            x.buy(0, 0, 1);
        }
        Due.orders(x, "save 1000 * 9 + 999 times 10; save 20");
        for (int n = 0; n < 20; n++) {
            x.feed(0x03010003, 0x01010301, 0x02030103, 0x03010403, 0x01050301);
        }
        return x;
    }
}
