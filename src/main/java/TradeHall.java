/** A barter hall for one good in grades; ../shared/DOC.md says what it promises. */
public final class TradeHall {
    public static final int NONE = -1;

    private static final int REFUSED = -2;
    private static final int OUT_OF_ORDER = -3;
    // Integer.MIN_VALUE by its number: of Integer the rules list functions alone.
    private static final int NOTHING = -2147483648;
    private static final int NO_BAR = -1000;

    private static final int MAX_TRADERS = 20;
    private static final int MAX_UNITS = 4;
    private static final int SLOTS = MAX_TRADERS * MAX_UNITS;
    // behind the slots of all traders
    private static final int NO_SLOT = SLOTS;
    private static final int GRADES = 4;
    private static final int MAX_VALUE = 9999;
    private static final int MAX_FEE = 500;
    private static final int MAX_PRICE = MAX_VALUE + MAX_FEE;
    private static final int MAX_TAPE = 400;
    private static final int MAX_LETTERS = 640;
    private static final int MAX_UNDO = 10;
    private static final int MAX_SHELVES = 2;
    private static final int MAX_LIE = 500;
    private static final int MAX_TEMPTING = 200;
    private static final int MAX_PACT = 100;

    private static final int CUT = 0;
    private static final int MIDDLE = 1;
    private static final int LESS = 2;
    private static final int APART = 3;

    private static final long MOST_WAYS = 1000000000000000000L;
    private static final long NAN_BITS = 0x7ff8000000000000L;

    private final Hall hall = new Hall();
    private final Tape tape = new Tape();
    private final History history = new History();
    private final Shelves shelves = new Shelves();
    private final Letters letters = new Letters();
    private final Book book = new Book();
    private final Book others = new Book();
    private final Ranking ranking = new Ranking();
    private final Serving serving = new Serving();
    private final int[] takingsByFee = new int[MAX_FEE + 1];
    private final long[] waysRow = new long[SLOTS + 1];

    public TradeHall() {
    }

    // ---- the tape ----

    public int feed(int a, int b, int c, int d, int e) {
        if (tape.size + 20 > MAX_TAPE) {
            return NONE;
        }
        tape.append(a);
        tape.append(b);
        tape.append(c);
        tape.append(d);
        tape.append(e);
        return tape.size;
    }

    public int end(int n) {
        if (n < 0 || n > tape.size) {
            return NONE;
        }
        tape.size = n;
        return n;
    }

    public int tell() {
        int fault = tape.read();
        tape.size = 0;
        if (fault != 0) {
            return -2 - fault;
        }
        hall.copyFrom(tape.told);
        history.forget();
        return hall.size;
    }

    // ---- acts ----

    public int come(boolean sells, int grade) {
        if (!isGrade(grade)) {
            return NONE;
        }
        if (hall.size >= MAX_TRADERS) {
            return REFUSED;
        }
        history.remember(hall);
        return hall.enter(sells, grade);
    }

    public int add(int trader, int value) {
        if (!hall.has(trader) || !isValue(value)) {
            return NONE;
        }
        int unit = hall.unitsOf(trader);
        if (unit >= MAX_UNITS) {
            return REFUSED;
        }
        if (!hall.fits(trader, unit, value)) {
            return OUT_OF_ORDER;
        }
        history.remember(hall);
        return hall.append(trader, value);
    }

    public int say(int trader, int unit, int value) {
        if (!hall.hasUnit(trader, unit) || !isValue(value)) {
            return NONE;
        }
        int said = hall.said(trader, unit);
        if (said == value) {
            return REFUSED;
        }
        if (!hall.fits(trader, unit, value)) {
            return OUT_OF_ORDER;
        }
        history.remember(hall);
        hall.setSaid(trader, unit, value);
        return said;
    }

    public int leave(int trader) {
        int units = hall.unitsOf(trader);
        if (units == 0) {
            return NONE;
        }
        history.remember(hall);
        hall.dropFirst(trader, units);
        return units;
    }

    public int fee(int pence) {
        if (!isFee(pence)) {
            return NONE;
        }
        int was = hall.fee;
        if (was == pence) {
            return REFUSED;
        }
        history.remember(hall);
        hall.fee = pence;
        return was;
    }

    public int law(int law) {
        if (!isLaw(law)) {
            return NONE;
        }
        int was = hall.law;
        if (was == law) {
            return REFUSED;
        }
        history.remember(hall);
        hall.law = law;
        return was;
    }

    public int close(int grade) {
        if (!isGrade(grade)) {
            return NONE;
        }
        settleGrade(grade);
        if (book.done == 0) {
            return REFUSED;
        }
        history.remember(hall);
        for (int trader = 0; trader < hall.size; trader++) {
            boolean sells = hall.isSeller(trader);
            hall.trade(trader, book.doneOf(sells, trader), book.moneyOf(sells, trader));
        }
        hall.noteClose(book.done, book.takings());
        return book.done;
    }

    public int undo() {
        return history.takeBack(hall);
    }

    public int keep(int shelf) {
        if (!isShelf(shelf)) {
            return NONE;
        }
        shelves.put(shelf, hall);
        return hall.size;
    }

    public int back(int shelf) {
        if (!isShelf(shelf)) {
            return NONE;
        }
        if (!shelves.holds(shelf)) {
            return REFUSED;
        }
        shelves.fetch(shelf, hall);
        history.forget();
        return hall.size;
    }

    // ---- what stands ----

    public int trader(int trader, int what) {
        if (!hall.has(trader)) {
            return NOTHING;
        }
        switch (what) {
            case 0:
                return hall.isSeller(trader) ? 1 : 0;
            case 1:
                return hall.gradeOf(trader);
            case 2:
                return hall.unitsOf(trader);
            case 3:
                return hall.purseOf(trader);
            case 4:
                settleGrade(hall.gradeOf(trader));
                return book.doneOf(hall.isSeller(trader), trader);
            case 5:
                return hall.tradedOf(trader);
            default:
                // what - 10 wraps around for the least numbers, to units that nobody has
                return hall.hasUnit(trader, what - 10) ? hall.said(trader, what - 10) : NOTHING;
        }
    }

    public int row(int grade, boolean asks, int k, int what) {
        if (!isGrade(grade) || what < 0 || what > 2) {
            return NONE;
        }
        settleGrade(grade);
        int count = asks ? book.askCount : book.bidCount;
        if (k == NONE && what == 0) {
            return count;
        }
        if (k < 0 || k >= count) {
            return NONE;
        }
        switch (what) {
            case 0:
                return book.traderAt(asks, k);
            case 1:
                return book.unitAt(asks, k);
            default:
                return asks ? book.ask(k) : book.bid(k);
        }
    }

    public int market(int grade, int what) {
        if (!isGrade(grade)) {
            return NOTHING;
        }
        settleGrade(grade);
        switch (what) {
            case 0:
                return book.trades;
            case 1:
                return book.worth;
            case 2:
                return book.done;
            case 3:
                return book.hasOnePrice() ? book.buyerPays : -2;
            case 4:
                return book.hasOnePrice() ? book.sellerHas : -2;
            case 5:
                return book.takings();
            case 6:
                return book.lost();
            case 7:
                return book.trades > 0 ? book.lastBid() : -2;
            case 8:
                return book.trades > 0 ? book.lastAsk() : -2;
            default:
                return NOTHING;
        }
    }

    public int deal(int trader, int what) {
        if (!hall.has(trader) || !isZeroOrOne(what)) {
            return NOTHING;
        }
        settleGrade(hall.gradeOf(trader));
        boolean sells = hall.isSeller(trader);
        return what == 0 ? book.moneyOf(sells, trader) : book.gainOf(hall, trader);
    }

    // ---- lies ----

    public int lie(int trader, int d) {
        if (!hall.has(trader) || d < -MAX_LIE || d > MAX_LIE) {
            return NOTHING;
        }
        setAside(hall.gradeOf(trader), bit(trader));
        return gainByLie(trader, d);
    }

    public int tempted(int trader, int what) {
        if (!hall.has(trader) || !isZeroOrOne(what)) {
            return NOTHING;
        }
        setAside(hall.gradeOf(trader), bit(trader));
        int most = gainByLie(trader, 0);
        int by = 0;
        for (int step = 1; step <= 2 * MAX_TEMPTING; step++) {
            int d = nearestToZero(step);
            int gain = gainByLie(trader, d);
            if (gain > most) {
                most = gain;
                by = d;
            }
        }
        return what == 0 ? most : by;
    }

    public int missed(int trader) {
        if (!hall.has(trader)) {
            return NONE;
        }
        settleGrade(hall.gradeOf(trader));
        return book.worth - book.worthWithout(trader);
    }

    public int open(int grade, int what) {
        if (!isGrade(grade) || what < 0 || what > 3) {
            return NONE;
        }
        settleGrade(grade);
        if (what == 0) {
            return book.openTwos();
        }
        // the first of both rows that are not done have the greatest difference
        int difference = book.openDifference();
        if (what == 1) {
            return difference;
        }
        return difference > 0 ? book.traderAt(what == 3, book.done) : -2;
    }

    public long ties(int grade) {
        if (!isGrade(grade)) {
            return NONE;
        }
        settleGrade(grade);
        long ofBids = ways(book.likeLast(false, book.bidCount), book.likeLast(false, book.trades));
        long ofAsks = ways(book.likeLast(true, book.askCount), book.likeLast(true, book.trades));
        if (ofAsks <= 0 || ofBids > MOST_WAYS / ofAsks) {
            return -2;
        }
        return ofBids * ofAsks;
    }

    // ---- what would be ----

    public int under(int grade, int law, int what) {
        if (!isGrade(grade) || !isLaw(law)) {
            return NOTHING;
        }
        book.take(hall, bit(grade), 0);
        book.settle(hall.fee, law);
        switch (what) {
            case 0:
                return book.done;
            case 1:
                return book.takings();
            case 2:
                return book.lost();
            default:
                return NOTHING;
        }
    }

    public int feeing(int grade, int pence, int what) {
        if (!isGrade(grade) || !isFee(pence) || !isZeroOrOne(what)) {
            return NOTHING;
        }
        book.take(hall, bit(grade), 0);
        book.settle(pence, hall.law);
        return what == 0 ? book.trades : book.takings();
    }

    public int bestFee(int what) {
        if (!isZeroOrOne(what)) {
            return NONE;
        }
        weighFees();
        int best = 0;
        for (int pence = 1; pence <= MAX_FEE; pence++) {
            if (takingsByFee[pence] > takingsByFee[best]) {
                best = pence;
            }
        }
        return what == 0 ? best : takingsByFee[best];
    }

    public int served(int what) {
        if (what < 0 || what > 2) {
            return NONE;
        }
        serving.serve(hall);
        if (what == 1) {
            return serving.pairs;
        }
        return what == 0 ? serving.value : serving.value - worthOfAll();
    }

    public long share() {
        int worth = 0;
        int done = 0;
        for (int grade = 0; grade < GRADES; grade++) {
            settleGrade(grade);
            worth += book.worth;
            done += book.worthOfFirst(book.done);
        }
        return bitsOfShare(done, worth);
    }

    public int audit(int what) {
        switch (what) {
            case 0:
                return hall.chest;
            case 1:
                return hall.allPurses();
            case 2:
                return hall.tradesClosed;
            case 3:
                return hall.size > 0 ? hall.richest() : -2;
            case 4:
                return hall.mostTaken;
            case 5:
                return hall.closes;
            default:
                return NOTHING;
        }
    }

    public int entry(boolean sells, int grade) {
        if (!isGrade(grade)) {
            return NONE;
        }
        settleGrade(grade);
        int value = sells ? book.greatestEntry() : book.leastEntry();
        return isValue(value) ? value : -2;
    }

    public int letter(int k) {
        if (k < NONE) {
            return NONE;
        }
        letters.write(hall);
        if (k == NONE) {
            return letters.size;
        }
        return k < letters.size ? letters.at(k) : -2;
    }

    public int match(int grade, int k, int what) {
        if (!isGrade(grade) || what < 0 || what > 3) {
            return NONE;
        }
        settleGrade(grade);
        if (k == NONE && what == 0) {
            return book.done;
        }
        if (k < 0 || k >= book.done) {
            return NONE;
        }
        boolean asks = what >= 2;
        return what % 2 == 0 ? book.traderAt(asks, k) : book.unitAt(asks, k);
    }

    public int merged(int grade, int other, int what) {
        if (!isGrade(grade) || !isGrade(other) || grade == other || what < 0 || what > 2) {
            return NONE;
        }
        int apart = worthOf(bit(grade), 0) + worthOf(bit(other), 0);
        int together = worthOf(bit(grade) | bit(other), 0);
        switch (what) {
            case 0:
                return book.trades;
            case 1:
                return together;
            default:
                return together - apart;
        }
    }

    public int prices(int grade, int what) {
        if (!isGrade(grade) || what < 0 || what > 2) {
            return NONE;
        }
        settleGrade(grade);
        if (book.trades == 0) {
            return -2;
        }
        switch (what) {
            case 0:
                return book.leastPrice();
            case 1:
                return book.greatestPrice();
            default:
                return book.greatestPrice() - book.leastPrice() + 1;
        }
    }

    public int bar(int trader) {
        if (!hall.has(trader)) {
            return NOTHING;
        }
        setAside(hall.gradeOf(trader), bit(trader));
        boolean sells = hall.isSeller(trader);
        for (int step = -MAX_LIE; step <= MAX_LIE; step++) {
            int d = sells ? -step : step;
            settleLie(trader, d);
            if (book.doneOf(sells, trader) > 0) {
                return d;
            }
        }
        return NO_BAR;
    }

    public int helps(int trader, int other) {
        if (!areTwoOfOneGrade(trader, other)) {
            return NOTHING;
        }
        int grade = hall.gradeOf(trader);
        settleGrade(grade);
        int gain = book.gainOf(hall, trader);
        book.take(hall, bit(grade), bit(other));
        book.settle(hall.fee, hall.law);
        return book.gainOf(hall, trader) - gain;
    }

    public int winner(int grade, int what) {
        if (!isGrade(grade)) {
            return NOTHING;
        }
        rankGrade(grade);
        switch (what) {
            case 0:
                return ranking.size > 0 ? ranking.traderAt(0) : -2;
            case 1:
                return ranking.gainAt(0);
            case 2:
                return ranking.winners();
            default:
                return NOTHING;
        }
    }

    public int demand(int grade, int price, int what) {
        if (!isGrade(grade) || price < 0 || price > MAX_PRICE || what < 0 || what > 2) {
            return NONE;
        }
        settleGrade(grade);
        int bids = book.bidsNotBelow(price);
        int asks = book.asksNotAbove(price);
        if (what == 2) {
            return Math.min(bids, asks);
        }
        return what == 0 ? bids : asks;
    }

    public int lively(int grade, int what) {
        if (!isGrade(grade) || what < 0 || what > 2) {
            return NONE;
        }
        settleGrade(grade);
        // As many bids and asks as there are trades meet at the prices between the
        // last ask and the last bid, one more of both at none.
        boolean trades = book.trades > 0;
        switch (what) {
            case 0:
                return trades ? book.lastAsk() : 0;
            case 1:
                return trades ? book.lastBid() : MAX_PRICE;
            default:
                return book.trades;
        }
    }

    public int pact(int trader, int other, int what) {
        if (!areTwoOfOneGrade(trader, other) || what < 0 || what > 2) {
            return NOTHING;
        }
        setAside(hall.gradeOf(trader), bit(trader) | bit(other));
        int now = gainByPact(trader, other, 0);
        int most = now;
        int by = 0;
        for (int step = 1; step <= 2 * MAX_PACT; step++) {
            int d = nearestToZero(step);
            int gain = gainByPact(trader, other, d);
            if (gain > most) {
                most = gain;
                by = d;
            }
        }
        if (what == 1) {
            return by;
        }
        return what == 0 ? most : most - now;
    }

    public int moved(int trader, int what) {
        if (!hall.has(trader) || !isZeroOrOne(what)) {
            return NOTHING;
        }
        int best = hall.gradeOf(trader);
        setAside(best, bit(trader));
        int most = gainByLie(trader, 0);
        for (int grade = 0; grade < GRADES; grade++) {
            setAside(grade, bit(trader));
            int gain = gainByLie(trader, 0);
            if (gain > most) {
                most = gain;
                best = grade;
            }
        }
        return what == 0 ? best : most;
    }

    public int ranked(int grade, int k) {
        if (!isGrade(grade) || k < NONE) {
            return NONE;
        }
        rankGrade(grade);
        if (k == NONE) {
            return ranking.size;
        }
        return k < ranking.size ? ranking.traderAt(k) : -2;
    }

    public int skim(int grade, int n, int what) {
        if (!isGrade(grade) || n < 0 || n > MAX_TRADERS || !isZeroOrOne(what)) {
            return NONE;
        }
        rankGrade(grade);
        int worth = worthOf(bit(grade), ranking.firstAsBits(n));
        return what == 0 ? book.trades : worth;
    }

    public int count(int what) {
        switch (what) {
            case 0:
                return hall.size;
            case 1:
                return hall.allUnits();
            case 2:
                return hall.fee;
            case 3:
                return hall.law;
            case 4:
                return history.size;
            case 5:
                return tape.size;
            case 6:
                return shelves.kept;
            case 7:
                return gradesWithTrades();
            case 8:
                return worthOfAll();
            default:
                return NONE;
        }
    }

    // ---- what the calls share ----

    private static boolean isGrade(int grade) {
        return grade >= 0 && grade < GRADES;
    }

    private static boolean isValue(int value) {
        return value >= 0 && value <= MAX_VALUE;
    }

    private static boolean isFee(int pence) {
        return pence >= 0 && pence <= MAX_FEE;
    }

    private static boolean isLaw(int law) {
        return law >= CUT && law <= APART;
    }

    private static boolean isShelf(int shelf) {
        return shelf >= 0 && shelf < MAX_SHELVES;
    }

    private static boolean isZeroOrOne(int what) {
        return what == 0 || what == 1;
    }

    private static int bit(int place) {
        return 1 << place;
    }

    private static String lawWord(int law) {
        switch (law) {
            case MIDDLE:
                return "middle";
            case LESS:
                return "less";
            case APART:
                return "apart";
            default:
                return "cut";
        }
    }

    /** 0, -1, 1, -2, 2, ..: so the first of like gains is the one that is asked for. */
    private static int nearestToZero(int step) {
        return step % 2 == 0 ? step / 2 : -(step + 1) / 2;
    }

    private boolean areTwoOfOneGrade(int trader, int other) {
        return hall.has(trader) && hall.has(other) && trader != other
                && hall.gradeOf(trader) == hall.gradeOf(other);
    }

    private void settleGrade(int grade) {
        book.take(hall, bit(grade), 0);
        book.settle(hall.fee, hall.law);
    }

    private int worthOf(int gradeBits, int absentBits) {
        book.take(hall, gradeBits, absentBits);
        book.settle(hall.fee, hall.law);
        return book.worth;
    }

    private int worthOfAll() {
        int sum = 0;
        for (int grade = 0; grade < GRADES; grade++) {
            sum += worthOf(bit(grade), 0);
        }
        return sum;
    }

    private int gradesWithTrades() {
        int bits = 0;
        for (int grade = 0; grade < GRADES; grade++) {
            settleGrade(grade);
            if (book.trades > 0) {
                bits |= bit(grade);
            }
        }
        return bits;
    }

    /** The others of the grade stay sorted, so that each lie has few units to put in. */
    private void setAside(int grade, int liarBits) {
        others.take(hall, bit(grade), liarBits);
    }

    private void settleLie(int trader, int d) {
        book.copyFrom(others);
        book.takeTrader(hall, trader, d);
        book.settle(hall.fee, hall.law);
    }

    private int gainByLie(int trader, int d) {
        settleLie(trader, d);
        return book.gainOf(hall, trader);
    }

    private int gainByPact(int trader, int other, int d) {
        book.copyFrom(others);
        book.takeTrader(hall, trader, d);
        book.takeTrader(hall, other, d);
        book.settle(hall.fee, hall.law);
        return book.gainOf(hall, trader) + book.gainOf(hall, other);
    }

    private void rankGrade(int grade) {
        settleGrade(grade);
        ranking.size = 0;
        for (int trader = 0; trader < hall.size; trader++) {
            if (hall.gradeOf(trader) == grade) {
                ranking.place(trader, book.gainOf(hall, trader));
            }
        }
    }

    private void weighFees() {
        for (int pence = 0; pence <= MAX_FEE; pence++) {
            takingsByFee[pence] = 0;
        }
        for (int grade = 0; grade < GRADES; grade++) {
            book.take(hall, bit(grade), 0);
            for (int pence = 0; pence <= MAX_FEE; pence++) {
                book.settle(pence, hall.law);
                takingsByFee[pence] += book.takings();
            }
        }
    }

    /** In how many ways some of n can be taken, or one more than the most that is told. */
    private long ways(int n, int some) {
        if (some < 0 || some > n || n >= waysRow.length) {
            return 0;
        }
        for (int j = 0; j <= some; j++) {
            waysRow[j] = j == 0 ? 1 : 0;
        }
        for (int i = 1; i <= n; i++) {
            for (int j = some; j >= 1; j--) {
                waysRow[j] = Math.min(waysRow[j] + waysRow[j - 1], MOST_WAYS + 1);
            }
        }
        return waysRow[some];
    }

    /** The bits of done / worth, for 0 <= done <= worth: the rules leave no doubleToLongBits. */
    private static long bitsOfShare(int done, int worth) {
        if (worth <= 0) {
            return NAN_BITS;
        }
        if (done <= 0) {
            return 0;
        }
        double share = (double) done / (double) worth;
        long exponent = 1023;
        for (int i = 0; i < 64 && share < 1.0; i++) {
            share = share * 2.0;
            exponent--;
        }
        long fraction = (long) ((share - 1.0) * 4503599627370496.0);
        return (exponent << 52) | fraction;
    }

    // ---- the classes inside ----

    /** All that an act changes: what undo takes back and a shelf keeps. */
    private static final class Hall {
        private final boolean[] sells = new boolean[MAX_TRADERS];
        private final int[] grades = new int[MAX_TRADERS];
        private final int[] units = new int[MAX_TRADERS];
        private final int[] says = new int[SLOTS];
        private final int[] purses = new int[MAX_TRADERS];
        private final int[] traded = new int[MAX_TRADERS];
        private int size;
        private int fee;
        private int law;
        private int chest;
        private int tradesClosed;
        private int closes;
        private int mostTaken;

        void clear() {
            size = 0;
            fee = 0;
            law = CUT;
            chest = 0;
            tradesClosed = 0;
            closes = 0;
            mostTaken = 0;
        }

        void copyFrom(Hall other) {
            if (other == null) {
                return;
            }
            for (int trader = 0; trader < MAX_TRADERS; trader++) {
                sells[trader] = other.sells[trader];
            }
            System.arraycopy(other.grades, 0, grades, 0, MAX_TRADERS);
            System.arraycopy(other.units, 0, units, 0, MAX_TRADERS);
            System.arraycopy(other.says, 0, says, 0, SLOTS);
            System.arraycopy(other.purses, 0, purses, 0, MAX_TRADERS);
            System.arraycopy(other.traded, 0, traded, 0, MAX_TRADERS);
            size = other.size;
            fee = other.fee;
            law = other.law;
            chest = other.chest;
            tradesClosed = other.tradesClosed;
            closes = other.closes;
            mostTaken = other.mostTaken;
        }

        boolean has(int trader) {
            return trader >= 0 && trader < size && trader < MAX_TRADERS;
        }

        boolean hasUnit(int trader, int unit) {
            boolean both = trader >= 0 && trader < size && trader < MAX_TRADERS && unit >= 0;
            return both && unit < units[trader] && unit < MAX_UNITS;
        }

        boolean isSeller(int trader) {
            return has(trader) && sells[trader];
        }

        int gradeOf(int trader) {
            return has(trader) ? grades[trader] : NONE;
        }

        int unitsOf(int trader) {
            return has(trader) ? units[trader] : 0;
        }

        int purseOf(int trader) {
            return has(trader) ? purses[trader] : 0;
        }

        int tradedOf(int trader) {
            return has(trader) ? traded[trader] : 0;
        }

        int said(int trader, int unit) {
            return hasUnit(trader, unit) ? says[trader * MAX_UNITS + unit] : 0;
        }

        void setSaid(int trader, int unit, int value) {
            if (hasUnit(trader, unit)) {
                says[trader * MAX_UNITS + unit] = value;
            }
        }

        int saidOfFirst(int trader, int count) {
            int sum = 0;
            for (int unit = 0; unit < count && unit < MAX_UNITS; unit++) {
                sum += said(trader, unit);
            }
            return sum;
        }

        /** Whether a value of this unit goes on as told with those beside it. */
        boolean fits(int trader, int unit, int value) {
            boolean rising = isSeller(trader);
            if (hasUnit(trader, unit - 1) && !inOrder(rising, said(trader, unit - 1), value)) {
                return false;
            }
            return !hasUnit(trader, unit + 1) || inOrder(rising, value, said(trader, unit + 1));
        }

        private static boolean inOrder(boolean rising, int ahead, int behind) {
            return rising ? behind >= ahead : behind <= ahead;
        }

        int enter(boolean selling, int grade) {
            if (size < 0 || size >= MAX_TRADERS) {
                return NONE;
            }
            int trader = size;
            sells[trader] = selling;
            grades[trader] = grade;
            units[trader] = 0;
            purses[trader] = 0;
            traded[trader] = 0;
            size++;
            return trader;
        }

        int append(int trader, int value) {
            int unit = unitsOf(trader);
            if (!has(trader) || unit >= MAX_UNITS) {
                return unit;
            }
            units[trader] = unit + 1;
            setSaid(trader, unit, value);
            return units[trader];
        }

        void dropFirst(int trader, int count) {
            int left = unitsOf(trader) - count;
            if (!has(trader) || count < 0 || left < 0) {
                return;
            }
            for (int unit = 0; unit < left; unit++) {
                setSaid(trader, unit, said(trader, unit + count));
            }
            units[trader] = left;
        }

        void trade(int trader, int count, int money) {
            if (!has(trader)) {
                return;
            }
            dropFirst(trader, count);
            traded[trader] += count;
            purses[trader] += sells[trader] ? money : -money;
        }

        void noteClose(int trades, int takings) {
            // takings may be below 0, so the first close counts whatever it took
            mostTaken = closes == 0 ? takings : Math.max(mostTaken, takings);
            chest += takings;
            tradesClosed += trades;
            closes++;
        }

        int allUnits() {
            int sum = 0;
            for (int trader = 0; trader < size; trader++) {
                sum += unitsOf(trader);
            }
            return sum;
        }

        int allPurses() {
            int sum = 0;
            for (int trader = 0; trader < size; trader++) {
                sum += purseOf(trader);
            }
            return sum;
        }

        int richest() {
            int best = 0;
            for (int trader = 1; trader < size; trader++) {
                if (purseOf(trader) > purseOf(best)) {
                    best = trader;
                }
            }
            return best;
        }
    }

    /** The halls ahead of the last acts, in a ring. */
    private static final class History {
        private final Hall[] past = new Hall[MAX_UNDO];
        private int next;
        private int size;

        History() {
            for (int i = 0; i < MAX_UNDO; i++) {
                past[i] = new Hall();
            }
        }

        void forget() {
            size = 0;
        }

        void remember(Hall hall) {
            Hall place = at(next);
            if (place != null) {
                place.copyFrom(hall);
            }
            next = (next + 1) % MAX_UNDO;
            size = Math.min(size + 1, MAX_UNDO);
        }

        int takeBack(Hall hall) {
            if (size <= 0) {
                return NONE;
            }
            next = (next + MAX_UNDO - 1) % MAX_UNDO;
            hall.copyFrom(at(next));
            size--;
            return size;
        }

        private Hall at(int i) {
            return i >= 0 && i < MAX_UNDO ? past[i] : null;
        }
    }

    /** The halls that are kept; kept has a bit for each shelf that is not empty. */
    private static final class Shelves {
        private final Hall[] halls = new Hall[MAX_SHELVES];
        private int kept;

        Shelves() {
            for (int i = 0; i < MAX_SHELVES; i++) {
                halls[i] = new Hall();
            }
        }

        boolean holds(int shelf) {
            return (kept & bit(shelf)) != 0;
        }

        void put(int shelf, Hall hall) {
            Hall place = at(shelf);
            if (place != null) {
                place.copyFrom(hall);
                kept |= bit(shelf);
            }
        }

        void fetch(int shelf, Hall hall) {
            hall.copyFrom(at(shelf));
        }

        private Hall at(int shelf) {
            return isShelf(shelf) ? halls[shelf] : null;
        }
    }

    /** The bytes that were fed, and the hall that they tell. */
    private static final class Tape {
        private static final int CANNOT_STAND = 1;
        private static final int NOT_AS_TOLD = 2;
        private static final int TOO_MANY = 3;
        // no number may be so great, so digits beyond it need no more room
        private static final int BEYOND = MAX_VALUE + 1;

        private final int[] bytes = new int[MAX_TAPE];
        private final Hall told = new Hall();
        private int size;
        private int place;
        private int fault;
        private boolean hasFee;
        private boolean hasLaw;

        void append(int number) {
            for (int shift = 24; shift >= 0; shift -= 8) {
                if (size >= 0 && size < MAX_TAPE) {
                    bytes[size] = (number >>> shift) & 255;
                    size++;
                }
            }
        }

        /** Reads the tape into told: its fault, 0 without. */
        int read() {
            told.clear();
            place = 0;
            fault = 0;
            hasFee = false;
            hasLaw = false;
            skipBlanks();
            if (place >= size) {
                return 0;
            }
            for (int parts = 0; parts < MAX_TAPE; parts++) {
                readPart();
                skipBlanks();
                if (fault != 0 || place >= size) {
                    break;
                }
                if (byteAt(place) != ';') {
                    note(place, CANNOT_STAND);
                    break;
                }
                place++;
            }
            return fault;
        }

        private void readPart() {
            skipBlanks();
            int from = place;
            skipWord();
            if (isWord(from, "buyer")) {
                readTrader(from, false);
            } else if (isWord(from, "seller")) {
                readTrader(from, true);
            } else if (isWord(from, "fee")) {
                readFee(from);
            } else if (isWord(from, "law")) {
                readLaw(from);
            } else {
                note(from, CANNOT_STAND);
            }
        }

        private void readTrader(int word, boolean sells) {
            if (told.size >= MAX_TRADERS) {
                note(word, TOO_MANY);
                return;
            }
            int grade = readNumber(GRADES - 1);
            if (fault != 0) {
                return;
            }
            int trader = told.enter(sells, grade);
            skipBlanks();
            for (int unit = 0; unit <= MAX_UNITS && isDigit(byteAt(place)); unit++) {
                int from = place;
                int value = readNumber(MAX_VALUE);
                if (fault == 0 && !told.fits(trader, unit, value)) {
                    note(from, NOT_AS_TOLD);
                } else if (fault == 0 && unit >= MAX_UNITS) {
                    note(from, TOO_MANY);
                }
                if (fault != 0) {
                    return;
                }
                told.append(trader, value);
                skipBlanks();
            }
        }

        private void readFee(int word) {
            if (hasFee) {
                note(word, TOO_MANY);
                return;
            }
            hasFee = true;
            told.fee = readNumber(MAX_FEE);
        }

        private void readLaw(int word) {
            if (hasLaw) {
                note(word, TOO_MANY);
                return;
            }
            hasLaw = true;
            skipBlanks();
            int from = place;
            skipWord();
            for (int law = CUT; law <= APART; law++) {
                if (isWord(from, lawWord(law))) {
                    told.law = law;
                    return;
                }
            }
            note(from, CANNOT_STAND);
        }

        private int readNumber(int most) {
            skipBlanks();
            int from = place;
            int value = 0;
            while (place < size && isDigit(byteAt(place))) {
                value = Math.min(value * 10 + byteAt(place) - '0', BEYOND);
                place++;
            }
            if (place == from) {
                note(from, CANNOT_STAND);
            } else if (value > most) {
                note(from, NOT_AS_TOLD);
            }
            return value;
        }

        private void note(int where, int kind) {
            fault = 8 * where + kind;
        }

        private void skipBlanks() {
            while (place < size && byteAt(place) == ' ') {
                place++;
            }
        }

        private void skipWord() {
            while (place < size && isSmallLetter(byteAt(place))) {
                place++;
            }
        }

        /** Whether the bytes from there to the place are this word. */
        private boolean isWord(int from, String word) {
            if (place - from != word.length()) {
                return false;
            }
            for (int i = 0; i < word.length(); i++) {
                if (byteAt(from + i) != word.charAt(i)) {
                    return false;
                }
            }
            return true;
        }

        private int byteAt(int i) {
            return i >= 0 && i < size && i < MAX_TAPE ? bytes[i] : NONE;
        }

        private static boolean isDigit(int c) {
            return c >= '0' && c <= '9';
        }

        private static boolean isSmallLetter(int c) {
            return c >= 'a' && c <= 'z';
        }
    }

    /** The hall as a text. */
    private static final class Letters {
        private final int[] bytes = new int[MAX_LETTERS];
        private int size;

        int at(int k) {
            return k >= 0 && k < size && k < MAX_LETTERS ? bytes[k] : NONE;
        }

        void write(Hall hall) {
            size = 0;
            for (int trader = 0; trader < hall.size; trader++) {
                beginPart(hall.isSeller(trader) ? "seller" : "buyer");
                putNumber(hall.gradeOf(trader));
                for (int unit = 0; unit < hall.unitsOf(trader); unit++) {
                    putNumber(hall.said(trader, unit));
                }
            }
            if (hall.fee != 0) {
                beginPart("fee");
                putNumber(hall.fee);
            }
            if (hall.law != CUT) {
                beginPart("law");
                put(' ');
                putWord(lawWord(hall.law));
            }
        }

        private void beginPart(String word) {
            if (size > 0) {
                put(';');
            }
            putWord(word);
        }

        private void putWord(String word) {
            for (int i = 0; i < word.length(); i++) {
                put(word.charAt(i));
            }
        }

        private void putNumber(int number) {
            put(' ');
            boolean begun = false;
            for (int unit = 1000; unit >= 1; unit /= 10) {
                begun = begun || number >= unit || unit == 1;
                if (begun) {
                    put('0' + number / unit % 10);
                }
            }
        }

        private void put(int letter) {
            if (size >= 0 && size < MAX_LETTERS) {
                bytes[size] = letter;
                size++;
            }
        }
    }

    /** The bids and asks of some traders, each row in its order, and what a law does with them. */
    private static final class Book {
        // A unit is one number that rises along its row: how far its value stands from
        // the best one, times SLOTS, and its slot (4 times the trader, and the unit).
        private final int[] bids = new int[SLOTS];
        private final int[] asks = new int[SLOTS];
        private int bidCount;
        private int askCount;
        // asks lie here without the fee, so that another fee needs no other order
        private int fee;
        private int law;
        private int trades;
        private int worth;
        private int done;
        private int buyerPays;
        private int sellerHas;

        void take(Hall hall, int gradeBits, int absentBits) {
            bidCount = 0;
            askCount = 0;
            for (int trader = 0; trader < hall.size; trader++) {
                boolean ofThese = (gradeBits & bit(hall.gradeOf(trader))) != 0;
                if (ofThese && (absentBits & bit(trader)) == 0) {
                    takeTrader(hall, trader, 0);
                }
            }
        }

        void takeTrader(Hall hall, int trader, int lie) {
            boolean sells = hall.isSeller(trader);
            int units = hall.unitsOf(trader);
            for (int unit = 0; unit < units; unit++) {
                int value = hall.said(trader, unit) + lie;
                value = Math.max(0, Math.min(value, MAX_VALUE));
                int slot = trader * MAX_UNITS + unit;
                if (sells) {
                    askCount = insert(asks, askCount, value * SLOTS + slot);
                } else {
                    bidCount = insert(bids, bidCount, (MAX_VALUE - value) * SLOTS + slot);
                }
            }
        }

        void copyFrom(Book other) {
            System.arraycopy(other.bids, 0, bids, 0, SLOTS);
            System.arraycopy(other.asks, 0, asks, 0, SLOTS);
            bidCount = other.bidCount;
            askCount = other.askCount;
        }

        private static int insert(int[] row, int count, int key) {
            if (count < 0 || count >= row.length) {
                return count;
            }
            int place = count;
            while (place > 0 && row[place - 1] > key) {
                row[place] = row[place - 1];
                place--;
            }
            row[place] = key;
            return count + 1;
        }

        int traderAt(boolean ofAsks, int k) {
            return slotAt(ofAsks, k) / MAX_UNITS;
        }

        int unitAt(boolean ofAsks, int k) {
            return slotAt(ofAsks, k) % MAX_UNITS;
        }

        private int slotAt(boolean ofAsks, int k) {
            if (k < 0 || k >= SLOTS || k >= (ofAsks ? askCount : bidCount)) {
                return NO_SLOT;
            }
            return (ofAsks ? asks[k] : bids[k]) % SLOTS;
        }

        int bid(int k) {
            return k >= 0 && k < bidCount && k < SLOTS ? MAX_VALUE - bids[k] / SLOTS : NONE;
        }

        int ask(int k) {
            return k >= 0 && k < askCount && k < SLOTS ? asks[k] / SLOTS + fee : NONE;
        }

        private int amount(boolean ofAsks, int k) {
            return ofAsks ? ask(k) : bid(k);
        }

        int lastBid() {
            return bid(trades - 1);
        }

        int lastAsk() {
            return ask(trades - 1);
        }

        // ---- the law ----

        void settle(int pence, int rule) {
            fee = pence;
            law = rule;
            trades = 0;
            worth = 0;
            while (trades < bidCount && trades < askCount && bid(trades) >= ask(trades)) {
                worth += bid(trades) - ask(trades);
                trades++;
            }
            done = trades;
            if (trades == 0 || law == APART) {
                return;
            }
            int price = priceForAll();
            if (price == NONE) {
                done = trades - 1;
                buyerPays = lastBid();
                sellerHas = lastAsk() - fee;
            } else {
                buyerPays = price;
                sellerHas = price - fee;
            }
        }

        /** The price at which the law does all trades; NONE if it does one less. */
        private int priceForAll() {
            if (law == MIDDLE) {
                return (lastBid() + lastAsk()) / 2;
            }
            if (law != CUT || trades >= bidCount || trades >= askCount) {
                return NONE;
            }
            int price = (bid(trades) + ask(trades)) / 2;
            return price <= lastBid() && price >= lastAsk() ? price : NONE;
        }

        boolean hasOnePrice() {
            return done > 0 && law != APART;
        }

        int worthOfFirst(int count) {
            int sum = 0;
            for (int k = 0; k < count; k++) {
                sum += bid(k) - ask(k);
            }
            return sum;
        }

        int lost() {
            return worth - worthOfFirst(done);
        }

        int worthWithout(int trader) {
            int sum = 0;
            int a = 0;
            for (int b = 0; b < bidCount; b++) {
                if (traderAt(false, b) == trader) {
                    continue;
                }
                while (a < askCount && traderAt(true, a) == trader) {
                    a++;
                }
                if (a >= askCount || bid(b) < ask(a)) {
                    break;
                }
                sum += bid(b) - ask(a);
                a++;
            }
            return sum;
        }

        // ---- what is done ----

        int doneOf(boolean sells, int trader) {
            int units = 0;
            for (int k = 0; k < done; k++) {
                if (traderAt(sells, k) == trader) {
                    units++;
                }
            }
            return units;
        }

        /** What a buyer pays, a seller has. */
        int moneyOf(boolean sells, int trader) {
            int units = doneOf(sells, trader);
            if (units == 0) {
                return 0;
            }
            if (law != APART) {
                return units * (sells ? sellerHas : buyerPays);
            }
            int said = amountsDone(sells, trader);
            int without = worthWithout(trader);
            return sells ? worth + said - without - units * fee : without - (worth - said);
        }

        private int amountsDone(boolean ofAsks, int trader) {
            int sum = 0;
            for (int k = 0; k < done; k++) {
                if (traderAt(ofAsks, k) == trader) {
                    sum += amount(ofAsks, k);
                }
            }
            return sum;
        }

        int takings() {
            if (law != APART) {
                return done == 0 ? 0 : done * (buyerPays - sellerHas);
            }
            // All that is paid goes to traders and hall: WORTH and FEES are all GAINS and the
            // TAKINGS, and by APART each trader gains what the WORTH would be less without it.
            int left = worth + done * fee;
            for (int trader = 0; trader < MAX_TRADERS; trader++) {
                left -= worth - worthWithout(trader);
            }
            return left;
        }

        /** By what it says in the hall, whatever it says in this book. */
        int gainOf(Hall hall, int trader) {
            boolean sells = hall.isSeller(trader);
            int said = hall.saidOfFirst(trader, doneOf(sells, trader));
            int money = moneyOf(sells, trader);
            return sells ? money - said : said - money;
        }

        // ---- beside what is done ----

        int openTwos() {
            int twos = 0;
            for (int b = done; b < bidCount; b++) {
                for (int a = done; a < askCount && bid(b) > ask(a); a++) {
                    twos++;
                }
            }
            return twos;
        }

        int openDifference() {
            if (done >= bidCount || done >= askCount) {
                return 0;
            }
            return Math.max(0, bid(done) - ask(done));
        }

        /** How many of the first ones of a row are like its last one. */
        int likeLast(boolean ofAsks, int count) {
            int like = 0;
            for (int k = 0; k < count && trades > 0; k++) {
                if (amount(ofAsks, k) == amount(ofAsks, trades - 1)) {
                    like++;
                }
            }
            return like;
        }

        /** What one buyer's unit more must say for one trade more; NONE if none helps. */
        int leastEntry() {
            boolean lastFits = trades == 0 || lastBid() >= ask(trades);
            return trades < askCount && lastFits ? ask(trades) : NONE;
        }

        /** What one seller's unit more must say for one trade more; below 0 if none helps. */
        int greatestEntry() {
            boolean lastFits = trades == 0 || lastAsk() <= bid(trades);
            return trades < bidCount && lastFits ? bid(trades) - fee : NONE;
        }

        int leastPrice() {
            return trades < bidCount ? Math.max(lastAsk(), bid(trades)) : lastAsk();
        }

        int greatestPrice() {
            return trades < askCount ? Math.min(lastBid(), ask(trades)) : lastBid();
        }

        int bidsNotBelow(int price) {
            int k = 0;
            while (k < bidCount && bid(k) >= price) {
                k++;
            }
            return k;
        }

        int asksNotAbove(int price) {
            int k = 0;
            while (k < askCount && ask(k) <= price) {
                k++;
            }
            return k;
        }
    }

    /** The traders of a grade, the greatest gain first. */
    private static final class Ranking {
        private final int[] order = new int[MAX_TRADERS];
        private final int[] gains = new int[MAX_TRADERS];
        private int size;

        void place(int trader, int gain) {
            if (size < 0 || size >= MAX_TRADERS) {
                return;
            }
            int k = size;
            while (k > 0 && gains[k - 1] < gain) {
                gains[k] = gains[k - 1];
                order[k] = order[k - 1];
                k--;
            }
            gains[k] = gain;
            order[k] = trader;
            size++;
        }

        private boolean has(int k) {
            return k >= 0 && k < size && k < MAX_TRADERS;
        }

        int traderAt(int k) {
            return has(k) ? order[k] : NONE;
        }

        int gainAt(int k) {
            return has(k) ? gains[k] : 0;
        }

        int winners() {
            int k = 0;
            while (k < size && gainAt(k) > 0) {
                k++;
            }
            return k;
        }

        int firstAsBits(int n) {
            int bits = 0;
            for (int k = 0; k < n && k < size; k++) {
                bits |= bit(traderAt(k));
            }
            return bits;
        }
    }

    /** Whom the sellers of a grade and of the better ones can serve, all grades together. */
    private static final class Serving {
        // One pair more costs 1 of SCALE, which stands for one penny: so of the same
        // worth the fewest pairs are the most, and all pairs together cost no penny.
        private static final int SCALE = 128;
        private static final int IMPOSSIBLE = -1000000000;

        // the most that the grades up to here can be worth, by how many sellers' units are over
        private final int[] most = new int[SLOTS + 1];
        private int value;
        private int pairs;

        void serve(Hall hall) {
            for (int over = 0; over <= SLOTS; over++) {
                most[over] = over == 0 ? 0 : IMPOSSIBLE;
            }
            // Units that are over serve the grades behind, which are worse: none goes ahead.
            for (int grade = 0; grade < GRADES; grade++) {
                offerGrade(hall, grade, true);
                offerGrade(hall, grade, false);
            }
            value = (most[0] + SCALE - 1) / SCALE;
            pairs = value * SCALE - most[0];
        }

        private void offerGrade(Hall hall, int grade, boolean sells) {
            for (int trader = 0; trader < hall.size; trader++) {
                if (hall.gradeOf(trader) == grade && hall.isSeller(trader) == sells) {
                    offerUnits(hall, trader, sells);
                }
            }
        }

        private void offerUnits(Hall hall, int trader, boolean sells) {
            for (int unit = 0; unit < hall.unitsOf(trader); unit++) {
                if (sells) {
                    offerAsk((hall.said(trader, unit) + hall.fee) * SCALE);
                } else {
                    offerBid(hall.said(trader, unit) * SCALE - 1);
                }
            }
        }

        private void offerAsk(int cost) {
            for (int over = SLOTS; over >= 1; over--) {
                most[over] = Math.max(most[over], most[over - 1] - cost);
            }
        }

        private void offerBid(int gain) {
            for (int over = 0; over < SLOTS; over++) {
                most[over] = Math.max(most[over], most[over + 1] + gain);
            }
        }
    }
}
