import java.util.Arrays;

/** A booking office where journeys are split: ../shared/DOC.md says what each call answers. */
public final class SplitFares {
    public static final int NONE = -1;

    // what a call is REFUSED by
    private static final int BAD_NUMBER = -1;
    private static final int NO_SUCH = -2;
    private static final int CANNOT = -3;
    private static final int NO_ROOM = -5;
    private static final int BAD_TEXT = -6;
    private static final int[] REFUSALS_IN_ORDER = {1, 2, 3, 5, 6};

    private static final int STATIONS = 8;
    private static final int LEGS = 64;
    private static final int MOST_TRAINS = 6;
    private static final int MOST_LAWS = 6;
    private static final int MOST_TOLD = 6;
    private static final int IMAGES = 2;
    private static final int UNDOABLE = 16;
    private static final int ROOM_ON_TAPE = 400;

    private static final int SINGLE = 0;
    private static final int RETURN = 1;
    private static final int HALF = 2;
    private static final int SORTS = 3;
    private static final int MOST_OF_A_SORT = 9;
    private static final int MOST_PENCE = 99_999;
    private static final int MOST_COST = 9_999;

    // the TERMS
    private static final int DAY = 0;
    private static final int CHECKS = 1;
    private static final int LAST_DAY = 999;
    private static final int[] MOST_OF_TERM = {999, 10, 9};

    // what an undone deed is told as
    private static final int BOUGHT = 0;
    private static final int RIDDEN = 1;
    private static final int SAVED = 2;
    private static final int PASSED = 3;

    // kinds of CLAUSES
    private static final int LAW_COSTS = 0;
    private static final int LAW_BARS = 1;
    private static final int ORDER_SINGLE = 0;
    private static final int ORDER_RETURN = 1;
    private static final int ORDER_RIDE = 2;
    private static final int ORDER_SAVE = 3;
    private static final int ORDER_PASS = 4;

    // what a Program tells of a CLAUSE: each of FIRST, SECOND, TEST begins where the one ahead of it ends
    private static final int KIND = 0;
    private static final int TIMES = 1;
    private static final int FIRST = 2;
    private static final int SECOND = 3;
    private static final int TEST = 4;
    private static final int END = 5;
    private static final int PLACES_OF_CLAUSE = 6;
    private static final int MOST_CLAUSES = 12;
    private static final int MOST_TIMES = 20;
    private static final int MOST_PARTS = 50;
    private static final int MOST_BRACKETS = 8;
    private static final int MOST_NUMBER = 1_000;

    // the steps of a Program
    private static final int OP_NUMBER = 0;
    private static final int OP_WORD = 1;
    private static final int OP_NOT = 2;
    private static final int OP_OR = 3;
    private static final int OP_AND = 4;
    private static final int OP_ADD = 5;
    private static final int OP_TAKE = 6;
    private static final int OP_TIMES = 7;
    private static final int OP_OVER = 8;
    private static final int OP_REST = 9;
    private static final int OP_LESS = 10;
    private static final int OP_MORE = 11;
    private static final int OP_SAME = 12;

    private static final int SO = 1;
    private static final int BROKEN = -2_000_000_000;
    private static final long FARTHEST_VALUE = 1_000_000_000L;
    private static final long BEYOND = 2_000_000_000L;

    // words of LAWS, of ORDERS: their places in a Machine's words
    private static final int LAW_FROM = 0;
    private static final int LAW_TO = 1;
    private static final int LAW_FAR = 2;
    private static final int LAW_RETURN = 3;
    private static final int LAW_HOUR = 4;
    private static final int LAW_DAY = 5;
    private static final int LAW_MOOD = 6;
    private static final int ORDER_DAY = 0;
    private static final int ORDER_DONE = 1;
    private static final int ORDER_LATEST = 2;
    private static final int ORDER_AT = 3;
    private static final int ORDER_PURSE = 4;
    private static final int ORDER_HELD = 5;
    private static final int ORDER_STOPS = 6;
    private static final int WORDS = ORDER_STOPS + MOST_TRAINS;

    private static final int MOST_FEW = 20;
    private static final long WHOLE_CHANCE = 1_000_000_000_000L;

    private final Desk desk = new Desk();
    private final Tape tape = new Tape();
    private final Reader reader = new Reader();
    private final Office[] images = new Office[IMAGES];
    private final int[] refusals = new int[7];
    private final int[] answers = new int[MOST_TRAINS * STATIONS];
    private final int[] drawnTerms = new int[4];
    private final long[] chances = new long[MOST_FEW];
    private boolean anyDrawn = false;
    private int latestFault = NONE;
    private int latestStopped = NONE;
    private int latestDelays = 0;
    private int latestStatus = 0;

    public SplitFares() {
    }

    public int train(int stops, int up, int hour) {
        return answered(desk.office.addTrain(stops, up, hour));
    }

    public int of(int train, int what) {
        Office office = desk.office;
        if (!office.hasTrain(train)) {
            return NONE;
        }
        if (what == 0) {
            return office.stops[train];
        }
        if (what == 1) {
            return office.ups[train];
        }
        return what == 2 ? office.hours[train] : NONE;
    }

    public int price(int sort, int from, int to) {
        return isBought(sort, from, to) ? desk.office.costOf(sort, from, to) : NONE;
    }

    public int isBarred(int train, int sort, int from, int to) {
        if (!isBought(sort, from, to) || !desk.office.hasTrain(train)) {
            return NONE;
        }
        return desk.office.bars(train, sort, from, to) ? 1 : 0;
    }

    public int held(int sort, int from, int to) {
        if (sort < 0 || sort >= SORTS || !isLeg(from, to)) {
            return NONE;
        }
        return desk.office.pocket.heldOf(sort, from, to);
    }

    public int terms(int what, int value) {
        if (what < 0 || what >= MOST_OF_TERM.length || value < 0 || value > MOST_OF_TERM[what]) {
            return refused(BAD_NUMBER);
        }
        int was = desk.office.term(what);
        desk.office.setTerm(what, value);
        desk.log.clear();
        return accepted(was);
    }

    public int feed(int a, int b, int c, int d, int e) {
        if (tape.length + 20 > ROOM_ON_TAPE) {
            return NONE;
        }
        tape.put(a);
        tape.put(b);
        tape.put(c);
        tape.put(d);
        tape.put(e);
        return tape.length;
    }

    public int end(int n) {
        if (n < 0 || n > tape.length) {
            return NONE;
        }
        tape.length = n;
        return n;
    }

    public int row() {
        if (tape.length == 0) {
            return refused(BAD_TEXT);
        }
        int came = 0;
        int late = 0;
        for (int i = 0; i < tape.length; i += 3) {
            boolean whole = i + 3 <= tape.length;
            if (whole && desk.office.addTrain(tape.at(i), tape.at(i + 1), tape.at(i + 2)) >= 0) {
                came++;
            } else {
                late++;
            }
        }
        tape.length = 0;
        latestDelays = late;
        return accepted(came);
    }

    public int delays() {
        return latestDelays;
    }

    public int law() {
        Office office = desk.office;
        if (office.lawCount >= MOST_LAWS) {
            tape.length = 0;
            return refused(NO_ROOM);
        }
        if (!settleText(reader.readText(tape, false))) {
            return refused(BAD_TEXT);
        }
        Program law = new Program();
        law.copyFrom(reader.draft);
        return accepted(office.addLaw(law));
    }

    public int orders() {
        latestStopped = NONE;
        if (!settleText(reader.readText(tape, true))) {
            return refused(BAD_TEXT);
        }
        Program program = reader.draft;
        desk.begin();
        for (int i = 0; i < program.clauseCount && latestStopped == NONE; i++) {
            if (!desk.runClause(program, i)) {
                latestStopped = i;
            }
        }
        if (latestStopped == NONE) {
            return accepted(desk.done);
        }
        desk.takeBack();
        return refused(CANNOT);
    }

    public int fault() {
        return latestFault;
    }

    public int stopped() {
        return latestStopped;
    }

    public int force(int law) {
        Office office = desk.office;
        if (law != NONE && office.lawOf(law) == null) {
            return refused(NO_SUCH);
        }
        int was = office.lawInForce;
        office.lawInForce = law;
        return accepted(was);
    }

    public int buy(int sort, int from, int to) {
        return answered(desk.buyTicket(sort, from, to));
    }

    public int ride(int train, int to) {
        return answered(desk.rideTrain(train, to));
    }

    public int save(int pence) {
        return answered(desk.savePence(pence));
    }

    public int pass() {
        return answered(desk.passDay());
    }

    public int undo() {
        int kind = desk.log.pop(desk.office.pocket);
        return kind < 0 ? refused(CANNOT) : accepted(kind);
    }

    public int cheapest(int train, int from, int to, int i) {
        int cost = leastOn(train, from, to, STATIONS - 1);
        if (cost < 0 || i == NONE) {
            return cost;
        }
        return desk.ways.endOf(from, to, i);
    }

    public int byAtMost(int train, int from, int to, int k) {
        return k < 1 || k >= STATIONS ? NONE : leastOn(train, from, to, k);
    }

    public int fewest(int train, int from, int to) {
        if (!isLeg(from, to)) {
            return NONE;
        }
        desk.ways.fillWithSingles(desk.office, train);
        for (int k = 1; k < STATIONS; k++) {
            if (desk.ways.least(from, to, k) >= 0) {
                return k;
            }
        }
        return NONE;
    }

    public int ways(int train, int from, int to) {
        if (!isLeg(from, to) || !desk.office.hasTrain(train)) {
            return NONE;
        }
        desk.ways.fillWithSingles(desk.office, train);
        return desk.ways.howMany(from, to);
    }

    public int thereAndBack(int out, int back, int from, int to) {
        if (!isLeg(from, to)) {
            return NONE;
        }
        desk.ways.fillThereAndBack(desk.office, out, back);
        return desk.ways.least(from, to, STATIONS - 1);
    }

    public int saved(int train, int from, int to) {
        if (!isLeg(from, to)) {
            return NONE;
        }
        desk.ways.fillWithSingles(desk.office, train);
        return desk.ways.savedBetween(from, to);
    }

    public int bestTrain(int from, int to) {
        int best = NONE;
        int bestCost = NONE;
        for (int t = 0; t < MOST_TRAINS && desk.office.hasTrain(t); t++) {
            int cost = leastOn(t, from, to, STATIONS - 1);
            if (cost >= 0 && (best == NONE || cost < bestCost)) {
                best = t;
                bestCost = cost;
            }
        }
        return best;
    }

    public int mostSaved(int train, int what) {
        desk.ways.fillWithSingles(desk.office, train);
        int most = NONE;
        int mostFrom = NONE;
        int mostTo = NONE;
        for (int leg = 0; leg < LEGS; leg++) {
            int pence = desk.ways.savedBetween(leg / STATIONS, leg % STATIONS);
            if (pence > most) {
                most = pence;
                mostFrom = leg / STATIONS;
                mostTo = leg % STATIONS;
            }
        }
        if (what == 0) {
            return most;
        }
        if (what == 1) {
            return mostFrom;
        }
        return what == 2 ? mostTo : NONE;
    }

    public int purseEnd() {
        Pocket pocket = desk.office.pocket;
        fillAnswers();
        int bits = 1 << pocket.at;
        for (int i = 0; i < answers.length && desk.office.hasTrain(i / STATIONS); i++) {
            if (answers[i] >= 0 && answers[i] <= pocket.purse) {
                bits |= 1 << (i % STATIONS);
            }
        }
        return bits;
    }

    public int used(int train, int to, int i) {
        int at = desk.office.pocket.at;
        desk.ways.fillWithTickets(desk.office, train);
        int tickets = desk.ways.least(at, to, STATIONS - 1);
        if (tickets < 0 || i == NONE) {
            return tickets;
        }
        return desk.ways.endOf(at, to, i);
    }

    public int told(int station, int n) {
        return answered(desk.office.addTold(station, n));
    }

    public int forget() {
        int was = desk.office.toldCount;
        desk.office.toldCount = 0;
        return was;
    }

    public int canBe() {
        fillAnswers();
        return trainsThatFit();
    }

    public int ask(int what) {
        fillAnswers();
        int trains = trainsThatFit();
        if (trains == 0) {
            return NONE;
        }
        int best = NONE;
        int bestLeft = NONE;
        for (int s = 0; s < STATIONS; s++) {
            int left = mostAlike(trains, s);
            if (best == NONE || left < bestLeft) {
                best = s;
                bestLeft = left;
            }
        }
        if (what == 0) {
            return best;
        }
        return what == 1 ? bestLeft : NONE;
    }

    public long few(int k, int n) {
        if (k < 1 || k > MOST_FEW || n < 0 || n > 99) {
            return NONE;
        }
        long checks = desk.office.term(CHECKS);
        Arrays.fill(chances, 0L);
        chances[0] = WHOLE_CHANCE;
        for (int ride = 0; ride < n; ride++) {
            for (int j = k - 1; j >= 0; j--) {
                long onceMore = j > 0 ? chances[j - 1] * checks / 10 : 0L;
                chances[j] = chances[j] * (10 - checks) / 10 + onceMore;
            }
        }
        long together = 0L;
        for (int j = 0; j < k; j++) {
            together += chances[j];
        }
        return together;
    }

    public int compare(int law, int from, int to) {
        Program other = desk.office.lawOf(law);
        if (!isLeg(from, to) || law != NONE && other == null) {
            return NONE;
        }
        return desk.office.costBy(other, SINGLE, from, to);
    }

    public int months(int seed, int n) {
        if (seed < 0 || seed > 1_000_000 || n < 1 || n > 60) {
            return refused(BAD_NUMBER);
        }
        if (desk.office.trainCount == 0) {
            return refused(CANNOT);
        }
        Pocket pocket = desk.office.pocket;
        desk.begin();
        int usedUp = desk.drawMonths(seed, n);
        drawnTerms[0] = pocket.purse;
        drawnTerms[1] = pocket.at;
        drawnTerms[2] = pocket.heldInAll();
        drawnTerms[3] = pocket.day;
        anyDrawn = true;
        desk.takeBack();
        return accepted(usedUp);
    }

    public int drawn(int what) {
        return anyDrawn && what >= 0 && what < drawnTerms.length ? drawnTerms[what] : NONE;
    }

    public int image(int k) {
        if (k < 0 || k >= IMAGES) {
            return refused(BAD_NUMBER);
        }
        Office kept = images[k];
        if (kept == null) {
            kept = new Office();
            images[k] = kept;
        }
        kept.copyFrom(desk.office);
        return accepted(0);
    }

    public int back(int k) {
        if (k < 0 || k >= IMAGES) {
            return refused(BAD_NUMBER);
        }
        Office kept = images[k];
        if (kept == null) {
            return refused(NO_SUCH);
        }
        desk.office.copyFrom(kept);
        desk.log.clear();
        return accepted(0);
    }

    public int count(int what) {
        Office office = desk.office;
        if (what >= 8 && what <= 12) {
            return refusals[REFUSALS_IN_ORDER[what - 8]];
        }
        switch (what) {
            case 0: return office.trainCount;
            case 1: return office.pocket.at;
            case 2: return office.pocket.purse;
            case 3: return office.pocket.heldInAll();
            case 4: return office.toldCount;
            case 5: return office.lawCount;
            case 6: return desk.log.size;
            case 7: return tape.length;
            case 13: return office.lawInForce;
            case 14:
            case 15:
            case 16: return office.term(what - 14);
            default: return NONE;
        }
    }

    public int status() {
        return latestStatus;
    }

    private static boolean isStation(int s) {
        return s >= 0 && s < STATIONS;
    }

    private static boolean isLeg(int from, int to) {
        return isStation(from) && isStation(to) && from != to;
    }

    private static boolean isBought(int sort, int from, int to) {
        return (sort == SINGLE || sort == RETURN) && isLeg(from, to);
    }

    private int accepted(int answer) {
        latestStatus = 0;
        return answer;
    }

    private int refused(int code) {
        latestStatus = code;
        if (code < 0 && code > -refusals.length) {
            refusals[-code]++;
        }
        return code;
    }

    private int answered(int answer) {
        return answer < 0 ? refused(answer) : accepted(answer);
    }

    private boolean settleText(boolean good) {
        latestFault = good ? NONE : reader.place();
        tape.length = 0;
        return good;
    }

    private int leastOn(int train, int from, int to, int most) {
        if (!isLeg(from, to)) {
            return NONE;
        }
        desk.ways.fillWithSingles(desk.office, train);
        return desk.ways.least(from, to, most);
    }

    /** What the CHEAPEST from AT costs, for each TRAIN and each STATION. */
    private void fillAnswers() {
        Office office = desk.office;
        for (int t = 0; t < MOST_TRAINS && office.hasTrain(t); t++) {
            desk.ways.fillWithSingles(office, t);
            for (int s = 0; s < STATIONS; s++) {
                answers[t * STATIONS + s] = desk.ways.least(office.pocket.at, s, STATIONS - 1);
            }
        }
    }

    private int answerOf(int train, int station) {
        int i = train * STATIONS + station;
        return i >= 0 && i < answers.length ? answers[i] : NONE;
    }

    private int trainsThatFit() {
        Office office = desk.office;
        int bits = 0;
        for (int t = 0; t < MOST_TRAINS && office.hasTrain(t); t++) {
            boolean fits = true;
            for (int i = 0; i < MOST_TOLD && i < office.toldCount; i++) {
                fits = fits && answerOf(t, office.toldStations[i]) == office.toldCosts[i];
            }
            if (fits) {
                bits |= 1 << t;
            }
        }
        return bits;
    }

    /** How many of these TRAINS there are left at most, once it is told what a STATION costs. */
    private int mostAlike(int trains, int station) {
        int most = 0;
        for (int t = 0; t < MOST_TRAINS; t++) {
            int alike = 0;
            for (int u = 0; u < MOST_TRAINS; u++) {
                boolean both = (trains >> t & 1) == 1 && (trains >> u & 1) == 1;
                if (both && answerOf(t, station) == answerOf(u, station)) {
                    alike++;
                }
            }
            most = Math.max(most, alike);
        }
        return most;
    }

    /** All that deeds change, and undoing brings back. */
    private static final class Pocket {
        private final int[] tickets = new int[SORTS * LEGS];
        int purse = 1_000;
        int at = 0;
        int day = 0;

        void copyFrom(Pocket other) {
            System.arraycopy(other.tickets, 0, tickets, 0, tickets.length);
            purse = other.purse;
            at = other.at;
            day = other.day;
        }

        int heldOf(int sort, int from, int to) {
            int i = sort * LEGS + from * STATIONS + to;
            return i >= 0 && i < tickets.length ? tickets[i] : 0;
        }

        /** One more or one less, within what may be held. */
        void change(int sort, int from, int to, int by) {
            int i = sort * LEGS + from * STATIONS + to;
            if (i >= 0 && i < tickets.length) {
                tickets[i] = Math.max(0, Math.min(MOST_OF_A_SORT, tickets[i] + by));
            }
        }

        int heldInAll() {
            int all = 0;
            for (int n : tickets) {
                all += n;
            }
            return all;
        }

        int dropHalves() {
            int dropped = 0;
            for (int i = HALF * LEGS; i < tickets.length; i++) {
                dropped += tickets[i];
                tickets[i] = 0;
            }
            return dropped;
        }
    }

    /** All that an IMAGE keeps. */
    private static final class Office {
        final Pocket pocket = new Pocket();
        int trainCount = 0;
        final int[] stops = new int[MOST_TRAINS];
        final int[] ups = new int[MOST_TRAINS];
        final int[] hours = new int[MOST_TRAINS];
        int lawCount = 0;
        int lawInForce = NONE;
        private final Program[] laws = new Program[MOST_LAWS];
        int toldCount = 0;
        final int[] toldStations = new int[MOST_TOLD];
        final int[] toldCosts = new int[MOST_TOLD];
        private int checks = 1;
        private int mood = 0;
        private final Machine machine = new Machine();

        void copyFrom(Office other) {
            pocket.copyFrom(other.pocket);
            trainCount = other.trainCount;
            System.arraycopy(other.stops, 0, stops, 0, MOST_TRAINS);
            System.arraycopy(other.ups, 0, ups, 0, MOST_TRAINS);
            System.arraycopy(other.hours, 0, hours, 0, MOST_TRAINS);
            lawCount = other.lawCount;
            lawInForce = other.lawInForce;
            for (int i = 0; i < MOST_LAWS; i++) {
                laws[i] = other.laws[i];
            }
            toldCount = other.toldCount;
            System.arraycopy(other.toldStations, 0, toldStations, 0, MOST_TOLD);
            System.arraycopy(other.toldCosts, 0, toldCosts, 0, MOST_TOLD);
            checks = other.checks;
            mood = other.mood;
        }

        boolean hasTrain(int number) {
            return number >= 0 && number < trainCount && number < MOST_TRAINS;
        }

        int addTrain(int bits, int up, int hour) {
            boolean stopsTwice = bits >= 0 && bits <= 255 && Integer.bitCount(bits) >= 2;
            if (!stopsTwice || up < 0 || up > 1 || hour < 0 || hour > 23) {
                return BAD_NUMBER;
            }
            if (trainCount >= MOST_TRAINS) {
                return NO_ROOM;
            }
            stops[trainCount] = bits;
            ups[trainCount] = up;
            hours[trainCount] = hour;
            trainCount++;
            return trainCount - 1;
        }

        boolean goes(int number, int from, int to) {
            if (!hasTrain(number) || !isLeg(from, to)) {
                return false;
            }
            boolean stopsAtBoth = (stops[number] >> from & 1) == 1 && (stops[number] >> to & 1) == 1;
            return stopsAtBoth && (to > from) == (ups[number] == 1);
        }

        int addTold(int station, int n) {
            if (!isStation(station) || n < NONE || n > MOST_PENCE) {
                return BAD_NUMBER;
            }
            if (toldCount >= MOST_TOLD) {
                return NO_ROOM;
            }
            toldStations[toldCount] = station;
            toldCosts[toldCount] = n;
            toldCount++;
            return toldCount;
        }

        int term(int what) {
            if (what == DAY) {
                return pocket.day;
            }
            return what == CHECKS ? checks : mood;
        }

        void setTerm(int what, int value) {
            if (what == DAY) {
                pocket.day = value;
            } else if (what == CHECKS) {
                checks = value;
            } else {
                mood = value;
            }
        }

        Program lawOf(int number) {
            return number >= 0 && number < lawCount && number < MOST_LAWS ? laws[number] : null;
        }

        int addLaw(Program law) {
            if (lawCount >= MOST_LAWS) {
                return NO_ROOM;
            }
            laws[lawCount] = law;
            lawCount++;
            return lawCount - 1;
        }

        int costOf(int sort, int from, int to) {
            return costBy(lawOf(lawInForce), sort, from, to);
        }

        int costBy(Program law, int sort, int from, int to) {
            int cost = Math.abs(from - to) * (sort == SINGLE ? 10 : 15);
            if (law == null) {
                return cost;
            }
            tellWords(sort, from, to, NONE);
            for (int i = law.clauseCount - 1; i >= 0; i--) {
                if (law.noted(i, KIND) == LAW_COSTS && machine.evaluate(law, i, TEST) == SO) {
                    int sum = machine.evaluate(law, i, FIRST);
                    if (sum != BROKEN) {
                        return Math.max(0, Math.min(MOST_COST, sum));
                    }
                }
            }
            return cost;
        }

        /** A HALF is asked about as its RETURN: sort RETURN, from and to of its way there. */
        boolean bars(int number, int sort, int from, int to) {
            Program law = lawOf(lawInForce);
            if (law == null || !hasTrain(number)) {
                return false;
            }
            tellWords(sort, from, to, hours[number]);
            for (int i = 0; i < law.clauseCount; i++) {
                if (law.noted(i, KIND) == LAW_BARS && machine.evaluate(law, i, TEST) == SO) {
                    return true;
                }
            }
            return false;
        }

        private void tellWords(int sort, int from, int to, int hour) {
            int[] words = machine.words;
            words[LAW_FROM] = from;
            words[LAW_TO] = to;
            words[LAW_FAR] = Math.abs(from - to);
            words[LAW_RETURN] = sort == SINGLE ? 0 : 1;
            words[LAW_HOUR] = hour;
            words[LAW_DAY] = pocket.day;
            words[LAW_MOOD] = mood;
        }
    }

    /** What can be undone: how all was ahead of the latest deeds. */
    private static final class Log {
        private final Pocket[] pockets = new Pocket[UNDOABLE];
        private final int[] kinds = new int[UNDOABLE];
        private int first = 0;
        int size = 0;

        Log() {
            for (int i = 0; i < UNDOABLE; i++) {
                pockets[i] = new Pocket();
            }
        }

        void clear() {
            first = 0;
            size = 0;
        }

        void push(int kind, Pocket before) {
            int i = Math.floorMod(first + size, UNDOABLE);
            Pocket kept = pockets[i];
            if (kept == null) {
                return;
            }
            kept.copyFrom(before);
            kinds[i] = kind;
            if (size < UNDOABLE) {
                size++;
            } else {
                first = Math.floorMod(first + 1, UNDOABLE);
            }
        }

        int pop(Pocket pocket) {
            if (size <= 0) {
                return NONE;
            }
            size--;
            int i = Math.floorMod(first + size, UNDOABLE);
            Pocket kept = pockets[i];
            if (kept == null) {
                return NONE;
            }
            pocket.copyFrom(kept);
            return kinds[i];
        }

        void copyFrom(Log other) {
            for (int i = 0; i < UNDOABLE; i++) {
                Pocket mine = pockets[i];
                Pocket its = other.pockets[i];
                if (mine != null && its != null) {
                    mine.copyFrom(its);
                }
                kinds[i] = other.kinds[i];
            }
            first = other.first;
            size = other.size;
        }
    }

    /** Deeds: tickets bought, rides, pence put by, days; ORDERS and MONTHS made of them. */
    private static final class Desk {
        final Office office = new Office();
        final Ways ways = new Ways();
        final Log log = new Log();
        private final Log logBefore = new Log();
        private final Pocket pocketBefore = new Pocket();
        private final Machine machine = new Machine();
        int done = 0;
        private int latestRide = NONE;

        int buyTicket(int sort, int from, int to) {
            if (!isBought(sort, from, to)) {
                return BAD_NUMBER;
            }
            Pocket pocket = office.pocket;
            int cost = office.costOf(sort, from, to);
            if (cost > pocket.purse || pocket.heldOf(sort, from, to) >= MOST_OF_A_SORT) {
                return CANNOT;
            }
            log.push(BOUGHT, pocket);
            pocket.purse -= cost;
            pocket.change(sort, from, to, 1);
            return pocket.purse;
        }

        int rideTrain(int train, int to) {
            if (!isStation(to)) {
                return BAD_NUMBER;
            }
            if (!office.hasTrain(train)) {
                return NO_SUCH;
            }
            Pocket pocket = office.pocket;
            ways.fillWithTickets(office, train);
            int tickets = ways.least(pocket.at, to, STATIONS - 1);
            if (tickets < 0) {
                return CANNOT;
            }
            log.push(RIDDEN, pocket);
            for (int i = 0; i < tickets; i++) {
                int next = ways.nextStop(pocket.at, to);
                int sort = ways.sortOf(pocket.at, next);
                pocket.change(sort, pocket.at, next, -1);
                if (sort == RETURN) {
                    pocket.change(HALF, next, pocket.at, 1);
                }
                pocket.at = next;
            }
            return tickets;
        }

        int savePence(int pence) {
            if (pence < 1 || pence > MOST_COST) {
                return BAD_NUMBER;
            }
            log.push(SAVED, office.pocket);
            office.pocket.purse = Math.min(MOST_PENCE, office.pocket.purse + pence);
            return office.pocket.purse;
        }

        int passDay() {
            if (office.pocket.day >= LAST_DAY) {
                return CANNOT;
            }
            log.push(PASSED, office.pocket);
            office.pocket.day++;
            return office.pocket.dropHalves();
        }

        /** Ahead of deeds that may have to be taken back together. */
        void begin() {
            pocketBefore.copyFrom(office.pocket);
            logBefore.copyFrom(log);
            done = 0;
            latestRide = NONE;
        }

        void takeBack() {
            office.pocket.copyFrom(pocketBefore);
            log.copyFrom(logBefore);
        }

        /** Whether all that a CLAUSE of ORDERS tells could be. */
        boolean runClause(Program program, int clause) {
            int kind = program.noted(clause, KIND);
            int times = program.noted(clause, TIMES);
            for (int n = 0; n < times; n++) {
                tellWords();
                if (machine.evaluate(program, clause, TEST) != SO) {
                    continue;
                }
                int a = machine.evaluate(program, clause, FIRST);
                int b = machine.evaluate(program, clause, SECOND);
                if (a == BROKEN || b == BROKEN) {
                    return false;
                }
                int answer = CANNOT;
                switch (kind) {
                    case ORDER_SINGLE: answer = buyTicket(SINGLE, a, b); break;
                    case ORDER_RETURN: answer = buyTicket(RETURN, a, b); break;
                    case ORDER_RIDE: answer = rideTrain(a, b); break;
                    case ORDER_SAVE: answer = savePence(a); break;
                    case ORDER_PASS: answer = passDay(); break;
                    default: break;
                }
                if (answer < 0) {
                    return false;
                }
                latestRide = kind == ORDER_RIDE ? answer : latestRide;
                done++;
            }
            return true;
        }

        private void tellWords() {
            int[] words = machine.words;
            words[ORDER_DAY] = office.pocket.day;
            words[ORDER_DONE] = done;
            words[ORDER_LATEST] = latestRide;
            words[ORDER_AT] = office.pocket.at;
            words[ORDER_PURSE] = office.pocket.purse;
            words[ORDER_HELD] = office.pocket.heldInAll();
            for (int t = 0; t < MOST_TRAINS; t++) {
                words[ORDER_STOPS + t] = office.hasTrain(t) ? Integer.bitCount(office.stops[t]) : NONE;
            }
        }

        /** How many TICKETS were used in so many MONTHS. */
        int drawMonths(int seed, int n) {
            int tickets = 0;
            int s = seed;
            for (int i = 0; i < n && office.pocket.day < LAST_DAY && office.trainCount > 0; i++) {
                s = drawAfter(s);
                int train = s % office.trainCount;
                s = drawAfter(s);
                int station = s % STATIONS;
                s = drawAfter(s);
                switch (s % 4) {
                    case 0: buyTicket(SINGLE, office.pocket.at, station); break;
                    case 1: buyTicket(RETURN, office.pocket.at, station); break;
                    case 2: tickets += Math.max(0, rideTrain(train, station)); break;
                    default: passDay(); break;
                }
            }
            return tickets;
        }

        private static int drawAfter(int s) {
            return (s * 1_103 + 12_345) % 1_000_003;
        }
    }

    /** The WAYS over legs from each STATION to each other one. */
    private static final class Ways {
        private final int[] legs = new int[LEGS];
        private final int[] sorts = new int[LEGS];
        private final int[] joint = new int[LEGS];
        private final int[] best = new int[STATIONS];
        private final int[] bestNow = new int[STATIONS];

        /** Legs cost what SINGLES cost; NONE, where a SINGLE is no good on the TRAIN. */
        void fillWithSingles(Office office, int train) {
            for (int leg = 0; leg < LEGS; leg++) {
                int from = leg / STATIONS;
                int to = leg % STATIONS;
                boolean good = office.goes(train, from, to) && !office.bars(train, SINGLE, from, to);
                legs[leg] = good ? office.costOf(SINGLE, from, to) : NONE;
            }
        }

        /** Legs cost one, where a TICKET is held that is good: so the least are the fewest. */
        void fillWithTickets(Office office, int train) {
            Pocket pocket = office.pocket;
            for (int leg = 0; leg < LEGS; leg++) {
                int from = leg / STATIONS;
                int to = leg % STATIONS;
                int sort = NONE;
                if (office.goes(train, from, to)) {
                    if (pocket.heldOf(SINGLE, from, to) > 0 && !office.bars(train, SINGLE, from, to)) {
                        sort = SINGLE;
                    } else if (pocket.heldOf(HALF, from, to) > 0 && !office.bars(train, RETURN, to, from)) {
                        sort = HALF;
                    } else if (pocket.heldOf(RETURN, from, to) > 0 && !office.bars(train, RETURN, from, to)) {
                        sort = RETURN;
                    }
                }
                sorts[leg] = sort;
                legs[leg] = sort == NONE ? NONE : 1;
            }
        }

        /**
         * Legs cost what both trains together cost between two STATIONS: a RETURN, or SINGLES by
         * any two WAYS. WAYS there and back meet at both ends of each of their RETURNS, so that a
         * row of such legs tells the two of them whole.
         */
        void fillThereAndBack(Office office, int out, int back) {
            fillWithSingles(office, out);
            for (int leg = 0; leg < LEGS; leg++) {
                joint[leg] = least(leg / STATIONS, leg % STATIONS, STATIONS - 1);
            }
            fillWithSingles(office, back);
            for (int leg = 0; leg < LEGS; leg++) {
                int cost = least(leg % STATIONS, leg / STATIONS, STATIONS - 1);
                joint[leg] = joint[leg] < 0 || cost < 0 ? NONE : joint[leg] + cost;
            }
            for (int leg = 0; leg < LEGS; leg++) {
                int cost = returnOn(office, out, back, leg / STATIONS, leg % STATIONS);
                boolean isLess = cost >= 0 && (joint[leg] < 0 || cost < joint[leg]);
                legs[leg] = isLess ? cost : joint[leg];
            }
        }

        private int returnOn(Office office, int out, int back, int from, int to) {
            boolean goes = office.goes(out, from, to) && office.goes(back, to, from);
            if (!goes || office.bars(out, RETURN, from, to) || office.bars(back, RETURN, from, to)) {
                return NONE;
            }
            return office.costOf(RETURN, from, to);
        }

        private int legOf(int from, int to) {
            int i = from * STATIONS + to;
            return i >= 0 && i < LEGS ? legs[i] : NONE;
        }

        /** What a WAY of so many legs at most costs at least; NONE without one. */
        int least(int from, int to, int most) {
            if (!isLeg(from, to)) {
                return NONE;
            }
            Arrays.fill(best, NONE);
            best[to] = 0;
            boolean changed = true;
            for (int n = 0; n < most && changed; n++) {
                changed = false;
                for (int s = 0; s < STATIONS; s++) {
                    bestNow[s] = leastByOneMore(s);
                    changed = changed || bestNow[s] != best[s];
                }
                System.arraycopy(bestNow, 0, best, 0, STATIONS);
            }
            return best[from];
        }

        private int leastByOneMore(int from) {
            int found = best[from];
            for (int next = 0; next < STATIONS; next++) {
                int leg = legOf(from, next);
                if (leg >= 0 && best[next] >= 0 && (found < 0 || leg + best[next] < found)) {
                    found = leg + best[next];
                }
            }
            return found;
        }

        /** The next STATION of the first of the best WAYS, behind least() to the same STATION. */
        int nextStop(int from, int to) {
            if (!isLeg(from, to)) {
                return NONE;
            }
            int turn = to > from ? 1 : -1;
            for (int n = 1; n <= Math.abs(to - from); n++) {
                int next = from + n * turn;
                int leg = legOf(from, next);
                if (leg >= 0 && best[next] >= 0 && leg + best[next] == best[from]) {
                    return next;
                }
            }
            return NONE;
        }

        /** Where the i-th leg of the first of the best WAYS ends, behind least() to the same STATION. */
        int endOf(int from, int to, int i) {
            int at = from;
            for (int n = 0; n < STATIONS; n++) {
                at = nextStop(at, to);
                if (at == NONE || n == i) {
                    return at;
                }
            }
            return NONE;
        }

        int sortOf(int from, int to) {
            return isLeg(from, to) ? sorts[from * STATIONS + to] : NONE;
        }

        int howMany(int from, int to) {
            if (!isLeg(from, to)) {
                return 0;
            }
            int turn = to > from ? 1 : -1;
            int far = Math.abs(to - from);
            Arrays.fill(bestNow, 0);
            bestNow[to] = 1;
            for (int n = 1; n <= far; n++) {
                int s = to - n * turn;
                for (int m = 0; m < n; m++) {
                    int next = to - m * turn;
                    bestNow[s] += legOf(s, next) >= 0 ? bestNow[next] : 0;
                }
            }
            return bestNow[from];
        }

        int savedBetween(int from, int to) {
            int cost = least(from, to, STATIONS - 1);
            if (cost < 0) {
                return NONE;
            }
            int direct = legOf(from, to);
            return direct < 0 ? 0 : direct - cost;
        }
    }

    /** The bytes that came. */
    private static final class Tape {
        private final int[] bytes = new int[ROOM_ON_TAPE];
        int length = 0;

        void put(int four) {
            for (int shift = 24; shift >= 0 && length >= 0 && length < ROOM_ON_TAPE; shift -= 8) {
                bytes[length] = four >>> shift & 255;
                length++;
            }
        }

        int at(int i) {
            return i >= 0 && i < length && i < ROOM_ON_TAPE ? bytes[i] : 0;
        }
    }

    /** The TOKENS of a TEXT, and which of them is to be read. */
    private static final class Tokens {
        private static final int AT_END = 0;
        private static final int LETTERS = 1;
        private static final int DIGITS = 2;
        private static final int SIGN = 3;
        private static final int BLANK = 4;
        private static final int TOO_HIGH = 1_000_000;

        private final int[] text = new int[ROOM_ON_TAPE];
        private final int[] kinds = new int[ROOM_ON_TAPE + 1];
        private final int[] starts = new int[ROOM_ON_TAPE + 1];
        private final int[] stops = new int[ROOM_ON_TAPE + 1];
        private int size = 0;
        private int now = 0;
        // of the TOKEN to be read
        private int kind = AT_END;
        private int start = 0;
        private int stop = 0;

        void scan(Tape tape) {
            int length = Math.min(tape.length, ROOM_ON_TAPE);
            size = 0;
            int before = BLANK;
            for (int i = 0; i < length; i++) {
                text[i] = tape.at(i);
                int found = kindOf(text[i]);
                boolean goesOn = found == before && (found == LETTERS || found == DIGITS);
                if (found != BLANK && !goesOn && size < ROOM_ON_TAPE) {
                    kinds[size] = found;
                    starts[size] = i;
                    size++;
                }
                if (found != BLANK && size > 0) {
                    stops[size - 1] = i + 1;
                }
                before = found;
            }
            kinds[size] = AT_END;
            starts[size] = length;
            stops[size] = length;
            look(0);
        }

        private static int kindOf(int b) {
            if (b >= 'a' && b <= 'z') {
                return LETTERS;
            }
            if (b >= '0' && b <= '9') {
                return DIGITS;
            }
            return b == ' ' ? BLANK : SIGN;
        }

        private void look(int token) {
            if (token >= 0 && token <= size && token < kinds.length) {
                now = token;
                kind = kinds[token];
                start = starts[token];
                stop = stops[token];
            }
        }

        void step() {
            look(now + 1);
        }

        int place() {
            return start;
        }

        private int byteAt(int i) {
            return i >= 0 && i < ROOM_ON_TAPE ? text[i] : 0;
        }

        boolean isEnd() {
            return kind == AT_END;
        }

        boolean isSign(char sign) {
            return kind == SIGN && byteAt(start) == sign;
        }

        boolean isWord(String word) {
            if (kind != LETTERS || stop - start != word.length()) {
                return false;
            }
            for (int i = 0; i < word.length(); i++) {
                if (byteAt(start + i) != word.charAt(i)) {
                    return false;
                }
            }
            return true;
        }

        /** What a row of digits tells (TOO_HIGH, if it is that or more); NONE without digits. */
        int number() {
            if (kind != DIGITS) {
                return NONE;
            }
            int value = 0;
            for (int i = start; i < stop; i++) {
                value = Math.min(TOO_HIGH, value * 10 + byteAt(i) - '0');
            }
            return value;
        }
    }

    /** Reads a TEXT into a Program; where it can't go on, the TOKEN to be read is the FAULT. */
    private static final class Reader {
        // levels of the grammar: a TEST or a SUM, below it a BOTH or a TERM, below that a PLAIN or a PART
        private static final int WHOLE = 0;
        private static final int PIECE = 2;

        final Program draft = new Program();
        private final Tokens tokens = new Tokens();
        private boolean forOrders = false;
        private int parts = 0;

        int place() {
            return tokens.place();
        }

        boolean readText(Tape tape, boolean asOrders) {
            tokens.scan(tape);
            draft.clear();
            forOrders = asOrders;
            parts = 0;
            for (int i = 0; i < MOST_CLAUSES; i++) {
                if (!(forOrders ? readOrder() : readLawClause())) {
                    return false;
                }
                if (tokens.isWord("if")) {
                    tokens.step();
                    if (!readTest(this, WHOLE, 0)) {
                        return false;
                    }
                }
                draft.closeClause();
                if (tokens.isEnd()) {
                    return true;
                }
                if (!tokens.isSign(';')) {
                    return false;
                }
                tokens.step();
            }
            return false;
        }

        private boolean readLawClause() {
            boolean costs = tokens.isWord("costs");
            if (!costs && !tokens.isWord("bars")) {
                return false;
            }
            tokens.step();
            draft.openClause(costs ? LAW_COSTS : LAW_BARS);
            if (costs && !readSum(this, WHOLE, 0)) {
                return false;
            }
            draft.mark(SECOND);
            draft.mark(TEST);
            return true;
        }

        private boolean readOrder() {
            int kind = orderKind();
            if (kind == NONE) {
                return false;
            }
            tokens.step();
            draft.openClause(kind);
            if (kind != ORDER_PASS && !readSum(this, WHOLE, 0)) {
                return false;
            }
            draft.mark(SECOND);
            if (kind == ORDER_SINGLE || kind == ORDER_RETURN || kind == ORDER_RIDE) {
                if (!tokens.isWord("to")) {
                    return false;
                }
                tokens.step();
                if (!readSum(this, WHOLE, 0)) {
                    return false;
                }
            }
            draft.mark(TEST);
            return readTimes();
        }

        private int orderKind() {
            if (tokens.isWord("single")) {
                return ORDER_SINGLE;
            }
            if (tokens.isWord("return")) {
                return ORDER_RETURN;
            }
            if (tokens.isWord("ride")) {
                return ORDER_RIDE;
            }
            if (tokens.isWord("save")) {
                return ORDER_SAVE;
            }
            return tokens.isWord("pass") ? ORDER_PASS : NONE;
        }

        private boolean readTimes() {
            if (!tokens.isWord("times")) {
                return true;
            }
            tokens.step();
            int times = tokens.number();
            if (times < 1 || times > MOST_TIMES) {
                return false;
            }
            draft.note(TIMES, times);
            tokens.step();
            return true;
        }

        /** A TEST, a BOTH or a PLAIN, inside so many brackets. */
        private static boolean readTest(Reader reader, int level, int brackets) {
            Tokens tokens = reader.tokens;
            if (level < PIECE) {
                String joint = level == WHOLE ? "or" : "and";
                boolean good = readTest(reader, level + 1, brackets);
                for (int n = 0; n < ROOM_ON_TAPE && good && tokens.isWord(joint); n++) {
                    tokens.step();
                    int skip = reader.draft.put(level == WHOLE ? OP_OR : OP_AND, 0);
                    good = readTest(reader, level + 1, brackets);
                    reader.draft.aim(skip);
                }
                return good;
            }
            boolean turned = reader.readNots();
            if (tokens.isSign('(')) {
                if (brackets >= MOST_BRACKETS) {
                    return false;
                }
                tokens.step();
                if (!readTest(reader, WHOLE, brackets + 1) || !tokens.isSign(')')) {
                    return false;
                }
                tokens.step();
            } else {
                if (!readSum(reader, WHOLE, brackets)) {
                    return false;
                }
                int op = reader.comparison();
                if (op == NONE) {
                    return false;
                }
                tokens.step();
                if (!readSum(reader, WHOLE, brackets)) {
                    return false;
                }
                reader.draft.put(op, 0);
            }
            if (turned) {
                reader.draft.put(OP_NOT, 0);
            }
            return true;
        }

        /** Whether there is an odd number of "not": a row of them is no recursion, it may be long. */
        private boolean readNots() {
            boolean turned = false;
            for (int n = 0; n < ROOM_ON_TAPE && tokens.isWord("not"); n++) {
                tokens.step();
                turned = !turned;
            }
            return turned;
        }

        private int comparison() {
            if (tokens.isSign('<')) {
                return OP_LESS;
            }
            if (tokens.isSign('>')) {
                return OP_MORE;
            }
            return tokens.isSign('=') ? OP_SAME : NONE;
        }

        /** A SUM, a TERM or a PART, inside so many brackets. */
        private static boolean readSum(Reader reader, int level, int brackets) {
            Tokens tokens = reader.tokens;
            if (level < PIECE) {
                boolean good = readSum(reader, level + 1, brackets);
                int op = reader.signOf(level);
                for (int n = 0; n < ROOM_ON_TAPE && good && op != NONE; n++) {
                    tokens.step();
                    good = readSum(reader, level + 1, brackets);
                    reader.draft.put(op, 0);
                    op = reader.signOf(level);
                }
                return good;
            }
            if (!tokens.isSign('[')) {
                return reader.readNumberOrWord();
            }
            if (brackets >= MOST_BRACKETS) {
                return false;
            }
            tokens.step();
            if (!readSum(reader, WHOLE, brackets + 1) || !tokens.isSign(']')) {
                return false;
            }
            tokens.step();
            return true;
        }

        /** The step of a sign by which a SUM or a TERM goes on. */
        private int signOf(int level) {
            if (level == WHOLE) {
                if (tokens.isSign('+')) {
                    return OP_ADD;
                }
                return tokens.isSign('-') ? OP_TAKE : NONE;
            }
            if (tokens.isSign('*')) {
                return OP_TIMES;
            }
            if (tokens.isSign('/')) {
                return OP_OVER;
            }
            return tokens.isSign('%') ? OP_REST : NONE;
        }

        private boolean readNumberOrWord() {
            int number = tokens.number();
            int word = forOrders ? orderWord() : lawWord();
            if (parts >= MOST_PARTS || number > MOST_NUMBER || number == NONE && word == NONE) {
                return false;
            }
            parts++;
            tokens.step();
            if (number != NONE) {
                draft.put(OP_NUMBER, number);
                return true;
            }
            if (forOrders && word == ORDER_STOPS) {
                int train = tokens.number();
                if (train < 0 || train >= MOST_TRAINS) {
                    return false;
                }
                tokens.step();
                word += train;
            }
            draft.put(OP_WORD, word);
            return true;
        }

        private int lawWord() {
            if (tokens.isWord("from")) {
                return LAW_FROM;
            }
            if (tokens.isWord("to")) {
                return LAW_TO;
            }
            if (tokens.isWord("far")) {
                return LAW_FAR;
            }
            if (tokens.isWord("return")) {
                return LAW_RETURN;
            }
            if (tokens.isWord("hour")) {
                return LAW_HOUR;
            }
            if (tokens.isWord("day")) {
                return LAW_DAY;
            }
            return tokens.isWord("mood") ? LAW_MOOD : NONE;
        }

        private int orderWord() {
            if (tokens.isWord("day")) {
                return ORDER_DAY;
            }
            if (tokens.isWord("done")) {
                return ORDER_DONE;
            }
            if (tokens.isWord("latest")) {
                return ORDER_LATEST;
            }
            if (tokens.isWord("at")) {
                return ORDER_AT;
            }
            if (tokens.isWord("purse")) {
                return ORDER_PURSE;
            }
            if (tokens.isWord("held")) {
                return ORDER_HELD;
            }
            return tokens.isWord("stops") ? ORDER_STOPS : NONE;
        }
    }

    /** A TEXT that was read: CLAUSES, whose SUMS and TESTS are steps for a Machine. */
    private static final class Program {
        private final int[] ops = new int[ROOM_ON_TAPE];
        private final int[] args = new int[ROOM_ON_TAPE];
        private final int[] clauses = new int[MOST_CLAUSES * PLACES_OF_CLAUSE];
        private int size = 0;
        int clauseCount = 0;

        void clear() {
            size = 0;
            clauseCount = 0;
        }

        void copyFrom(Program other) {
            System.arraycopy(other.ops, 0, ops, 0, ROOM_ON_TAPE);
            System.arraycopy(other.args, 0, args, 0, ROOM_ON_TAPE);
            System.arraycopy(other.clauses, 0, clauses, 0, clauses.length);
            size = other.size;
            clauseCount = other.clauseCount;
        }

        void openClause(int kind) {
            note(KIND, kind);
            note(TIMES, 1);
            mark(FIRST);
        }

        void mark(int what) {
            note(what, size);
        }

        void closeClause() {
            mark(END);
            clauseCount++;
        }

        /** Of the CLAUSE that is being read. */
        void note(int what, int value) {
            int i = clauseCount * PLACES_OF_CLAUSE + what;
            if (i >= 0 && i < clauses.length) {
                clauses[i] = value;
            }
        }

        int noted(int clause, int what) {
            int i = clause * PLACES_OF_CLAUSE + what;
            return i >= 0 && i < clauses.length ? clauses[i] : 0;
        }

        /** Its place. */
        int put(int op, int arg) {
            if (size >= 0 && size < ROOM_ON_TAPE) {
                ops[size] = op;
                args[size] = arg;
                size++;
            }
            return size - 1;
        }

        /** A step that may skip others skips all that came behind it. */
        void aim(int skip) {
            if (skip >= 0 && skip < size) {
                args[skip] = size - 1 - skip;
            }
        }

        int opAt(int i) {
            return i >= 0 && i < size ? ops[i] : OP_NUMBER;
        }

        int argAt(int i) {
            return i >= 0 && i < size ? args[i] : 0;
        }
    }

    /** Reckons SUMS and TESTS with what the words tell. */
    private static final class Machine {
        private static final int ROOM = 64;
        final int[] words = new int[WORDS];
        private final int[] stack = new int[ROOM];

        /** FIRST, SECOND or TEST of a CLAUSE: BROKEN, or its value; SO, if it has none. */
        int evaluate(Program program, int clause, int what) {
            int end = Math.min(program.noted(clause, what + 1), ROOM_ON_TAPE);
            int height = 0;
            for (int i = program.noted(clause, what); i < end; i++) {
                int op = program.opAt(i);
                int arg = program.argAt(i);
                if (op == OP_NUMBER || op == OP_WORD) {
                    if (height >= ROOM) {
                        return BROKEN;
                    }
                    stack[height] = op == OP_NUMBER ? arg : wordAt(arg);
                    height++;
                } else if (height < 1) {
                    return BROKEN;
                } else if (op == OP_NOT) {
                    stack[height - 1] = stack[height - 1] == SO ? 0 : SO;
                } else if (op == OP_OR || op == OP_AND) {
                    boolean settled = (stack[height - 1] == SO) == (op == OP_OR);
                    i += settled ? Math.max(0, arg) : 0;
                    height -= settled ? 0 : 1;
                } else {
                    if (height < 2) {
                        return BROKEN;
                    }
                    long value = joined(op, stack[height - 2], stack[height - 1]);
                    if (value > FARTHEST_VALUE || value < -FARTHEST_VALUE) {
                        return BROKEN;
                    }
                    height--;
                    stack[height - 1] = (int) value;
                }
            }
            return height > 0 ? stack[0] : SO;
        }

        private int wordAt(int i) {
            return i >= 0 && i < words.length ? words[i] : 0;
        }

        private static long joined(int op, long a, long b) {
            switch (op) {
                case OP_ADD: return a + b;
                case OP_TAKE: return a - b;
                case OP_TIMES: return a * b;
                case OP_OVER: return b == 0 ? BEYOND : a / b;
                case OP_REST: return b == 0 ? BEYOND : a % b;
                case OP_LESS: return a < b ? SO : 0;
                case OP_MORE: return a > b ? SO : 0;
                case OP_SAME: return a == b ? SO : 0;
                default: return BEYOND;
            }
        }
    }
}
