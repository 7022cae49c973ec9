/**
 * The edges that the document names, sentence by sentence: too small, too great, empty, full,
 * calls that are refused. The answers were worked out by hand.
 */
public final class TradeHallEdges extends Checks {
    interface Call {
        long of(TradeHall x, int... a);
    }

    interface Act {
        long on(TradeHall x);
    }

    public static void main(String[] args) {
        everyBound();
        actsAtTheirEdges();
        marketsAtTheirEdges();
        wishesAtTheirEdges();
        finish();
    }

    private static void actsAtTheirEdges() {
        newObject();
        objectsApart();
        feed();
        end();
        tellOfNothing();
        tellOfNumbers();
        tellOfMany();
        tellInPlace();
        come();
        add();
        say();
        leave();
        feeAndLaw();
        close();
        closeOfTheGreatest();
        undoOfEach();
        undoOfTen();
        refusedActs();
        keepAndBack();
    }

    private static void marketsAtTheirEdges() {
        trader();
        row();
        trades();
        cut();
        lessAndMiddle();
        apart();
        lie();
        tempted();
        missed();
        open();
        ties();
    }

    private static void wishesAtTheirEdges() {
        underAndFeeing();
        bestFee();
        served();
        share();
        audit();
        entry();
        letter();
        match();
        merged();
        prices();
        bar();
        helps();
        winnerAndRanked();
        demandAndLively();
        pact();
        moved();
        skim();
        count();
    }

    // ---- the bounds of every argument ----

    /** TRADERS 0 to 2 of GRADE 0, 3 of GRADE 1, two UNITS each; two trades are DONE in GRADE 0. */
    private static TradeHall some() {
        TradeHall x = told("buyer 0 90 70;seller 0 10 40;buyer 0 60 20;seller 1 5 6;law middle");
        x.keep(0);
        x.fee(3);
        x.keep(1);
        put(x, "1234567");
        return x;
    }

    private static int[] of(int... numbers) {
        return numbers;
    }

    /**
     * Each argument in its turn, beside good ones: at both ends of its bounds the call is not
     * refused, beyond them it is, however far, and leaves all as it was; a question leaves all as
     * it was, whatever it is.
     */
    private static void bounds(int number, String call, long refusal, Call f, int[] good,
            int[]... ends) {
        promise = number;
        for (int i = 0; i < good.length; i++) {
            int least = ends[i][0];
            int most = ends[i][1];
            for (int taken : of(least, good[i], most)) {
                dueTaken(call, refusal, f, with(good, i, taken));
            }
            for (int bad : of(least - 1, most + 1, least - 256, most + 256, least - 65536,
                    most + 65536, MIN, MIN + 1, MAX - 1, MAX)) {
                dueRefused(call, refusal, f, with(good, i, bad));
            }
        }
    }

    private static int[] with(int[] good, int i, int other) {
        int[] a = good.clone();
        a[i] = other;
        return a;
    }

    private static void dueTaken(String call, long refusal, Call f, int[] a) {
        TradeHall x = some();
        String before = all(x);
        String told = call + java.util.Arrays.toString(a);
        dueOther(told, f.of(x, a), refusal);
        if (promise >= 15) {
            dueSame(told, all(x), before);
        }
    }

    private static void dueRefused(String call, long refusal, Call f, int[] a) {
        TradeHall x = some();
        String before = all(x);
        String told = call + java.util.Arrays.toString(a);
        due(told, f.of(x, a), refusal);
        dueSame(told, all(x), before);
    }

    private static final int[] GRADES = {0, 3};
    private static final int[] TRADERS = {0, 3};

    private static void everyBound() {
        boundsOfActs();
        boundsOfTraders();
        boundsOfGrades();
        boundsOfRows();
        boundsOfWishes();
    }

    private static void boundsOfActs() {
        bounds(3, "end", -1, (x, a) -> x.end(a[0]), of(5), of(0, 7));
        bounds(5, "come", -1, (x, a) -> x.come(false, a[0]), of(2), GRADES);
        bounds(5, "come to sell", -1, (x, a) -> x.come(true, a[0]), of(2), GRADES);
        bounds(6, "add", -1, (x, a) -> x.add(a[0], a[1]), of(0, 5), TRADERS, of(0, 9999));
        bounds(7, "say", -1, (x, a) -> x.say(a[0], a[1], a[2]), of(0, 1, 5),
                TRADERS, of(0, 1), of(0, 9999));
        bounds(8, "leave", -1, (x, a) -> x.leave(a[0]), of(1), TRADERS);
        bounds(9, "fee", -1, (x, a) -> x.fee(a[0]), of(7), of(0, 500));
        bounds(10, "law", -1, (x, a) -> x.law(a[0]), of(2), of(0, 3));
        bounds(11, "close", -1, (x, a) -> x.close(a[0]), of(1), GRADES);
        bounds(13, "keep", -1, (x, a) -> x.keep(a[0]), of(0), of(0, 1));
        bounds(14, "back", -1, (x, a) -> x.back(a[0]), of(0), of(0, 1));
    }

    private static void boundsOfTraders() {
        bounds(15, "trader", MIN, (x, a) -> x.trader(a[0], a[1]), of(0, 3), TRADERS, of(0, 5));
        bounds(15, "trader", MIN, (x, a) -> x.trader(a[0], a[1]), of(0, 10), TRADERS, of(10, 11));
        bounds(18, "deal", MIN, (x, a) -> x.deal(a[0], a[1]), of(0, 0), TRADERS, of(0, 1));
        bounds(19, "lie", MIN, (x, a) -> x.lie(a[0], a[1]), of(0, 0), TRADERS, of(-500, 500));
        bounds(20, "tempted", MIN, (x, a) -> x.tempted(a[0], a[1]), of(0, 0), TRADERS, of(0, 1));
        bounds(21, "missed", -1, (x, a) -> x.missed(a[0]), of(0), TRADERS);
        bounds(35, "bar", MIN, (x, a) -> x.bar(a[0]), of(0), TRADERS);
        // unlike ones, of one GRADE: 3 is of another
        bounds(36, "helps", MIN, (x, a) -> x.helps(a[0], a[1]), of(0, 2), of(0, 1), of(1, 2));
        bounds(40, "pact", MIN, (x, a) -> x.pact(a[0], a[1], a[2]), of(0, 2, 0),
                of(0, 1), of(1, 2), of(0, 2));
        bounds(41, "moved", MIN, (x, a) -> x.moved(a[0], a[1]), of(0, 0), TRADERS, of(0, 1));
    }

    private static void boundsOfGrades() {
        bounds(17, "market", MIN, (x, a) -> x.market(a[0], a[1]), of(0, 0), GRADES, of(0, 8));
        bounds(22, "open", -1, (x, a) -> x.open(a[0], a[1]), of(0, 0), GRADES, of(0, 3));
        bounds(23, "ties", -1, (x, a) -> x.ties(a[0]), of(0), GRADES);
        bounds(24, "under", MIN, (x, a) -> x.under(a[0], a[1], a[2]), of(0, 0, 0),
                GRADES, of(0, 3), of(0, 2));
        bounds(25, "feeing", MIN, (x, a) -> x.feeing(a[0], a[1], a[2]), of(0, 0, 0),
                GRADES, of(0, 500), of(0, 1));
        bounds(30, "entry", -1, (x, a) -> x.entry(false, a[0]), of(0), GRADES);
        bounds(30, "entry to sell", -1, (x, a) -> x.entry(true, a[0]), of(0), GRADES);
        // unlike GRADES
        bounds(33, "merged", -1, (x, a) -> x.merged(a[0], a[1], a[2]), of(0, 3, 0),
                of(0, 2), of(1, 3), of(0, 2));
        bounds(34, "prices", -1, (x, a) -> x.prices(a[0], a[1]), of(0, 0), GRADES, of(0, 2));
        bounds(37, "winner", MIN, (x, a) -> x.winner(a[0], a[1]), of(0, 0), GRADES, of(0, 2));
        bounds(38, "demand", -1, (x, a) -> x.demand(a[0], a[1], a[2]), of(0, 0, 0),
                GRADES, of(0, 10499), of(0, 2));
        bounds(39, "lively", -1, (x, a) -> x.lively(a[0], a[1]), of(0, 0), GRADES, of(0, 2));
        bounds(43, "skim", -1, (x, a) -> x.skim(a[0], a[1], a[2]), of(0, 0, 0),
                GRADES, of(0, 20), of(0, 1));
    }

    private static void boundsOfRows() {
        Call bid = (x, a) -> x.row(a[0], false, a[1], a[2]);
        Call ask = (x, a) -> x.row(a[0], true, a[1], a[2]);
        Call match = (x, a) -> x.match(a[0], a[1], a[2]);
        // k NONE with what 0 alone
        bounds(16, "how many bids", -1, bid, of(0, -1, 0), GRADES, of(-1, 3), of(0, 0));
        bounds(16, "how many asks", -1, ask, of(0, -1, 0), GRADES, of(-1, 1), of(0, 0));
        bounds(32, "how many done", -1, match, of(0, -1, 0), GRADES, of(-1, 1), of(0, 0));
        // a k-th one is in GRADE 0 alone (asks: in 0 and 1)
        bounds(16, "bid", -1, bid, of(0, 0, 1), of(0, 0), of(0, 3), of(0, 2));
        bounds(16, "bid", -1, bid, of(0, 0, 2), of(0, 0), of(0, 3), of(0, 2));
        bounds(16, "ask", -1, ask, of(0, 0, 1), of(0, 1), of(0, 1), of(0, 2));
        bounds(16, "ask", -1, ask, of(0, 0, 2), of(0, 1), of(0, 1), of(0, 2));
        bounds(32, "match", -1, match, of(0, 0, 1), of(0, 0), of(0, 1), of(0, 3));
        bounds(32, "match", -1, match, of(0, 0, 3), of(0, 0), of(0, 1), of(0, 3));
        bounds(42, "ranked", -1, (x, a) -> x.ranked(a[0], 0), of(0), GRADES);
        bounds(42, "how many ranked", -1, (x, a) -> x.ranked(a[0], -1), of(0), GRADES);
        // k below NONE; a k that is too great is answered otherwise
        for (int k : of(-2, -3, -257, MIN, MIN + 1)) {
            promise = 31;
            dueRefused("letter", -1, (x, a) -> x.letter(a[0]), of(k));
            promise = 42;
            dueRefused("ranked", -1, (x, a) -> x.ranked(0, a[0]), of(k));
        }
    }

    private static void boundsOfWishes() {
        bounds(26, "bestFee", -1, (x, a) -> x.bestFee(a[0]), of(0), of(0, 1));
        bounds(27, "served", -1, (x, a) -> x.served(a[0]), of(0), of(0, 2));
        bounds(29, "audit", MIN, (x, a) -> x.audit(a[0]), of(0), of(0, 5));
        bounds(44, "count", -1, (x, a) -> x.count(a[0]), of(0), of(0, 8));
    }

    // ---- 1 to 14 ----

    private static void newObject() {
        promise = 1;
        TradeHall x = new TradeHall();
        due("NONE", TradeHall.NONE, -1);
        int[] market = {0, 0, 0, -2, -2, 0, 0, -2, -2};
        int[] open = {0, 0, -2, -2};
        int[] audit = {0, 0, 0, -2, 0, 0};
        int[] lively = {0, 10499, 0};
        int[] winner = {-2, 0, 0};
        for (int g = 0; g <= 3; g++) {
            for (int what = 0; what <= 8; what++) {
                due("market(" + g + ", " + what + ")", x.market(g, what), market[what]);
            }
            for (int what = 0; what <= 3; what++) {
                due("open(" + g + ", " + what + ")", x.open(g, what), open[what]);
                due("match(" + g + ", 0, " + what + ")", x.match(g, 0, what), -1);
            }
            for (int what = 0; what <= 2; what++) {
                due("winner(" + g + ", " + what + ")", x.winner(g, what), winner[what]);
                due("lively(" + g + ", " + what + ")", x.lively(g, what), lively[what]);
                due("prices(" + g + ", " + what + ")", x.prices(g, what), -2);
                due("merged(" + g + ", 0 or 1, " + what + ")", x.merged(g, g == 0 ? 1 : 0, what), 0);
                due("demand(" + g + ", 0, " + what + ")", x.demand(g, 0, what), 0);
                due("demand(" + g + ", 10499, " + what + ")", x.demand(g, 10499, what), 0);
                due("row(" + g + ", bids, 0, " + what + ")", x.row(g, false, 0, what), -1);
                due("row(" + g + ", asks, 0, " + what + ")", x.row(g, true, 0, what), -1);
                due("under(" + g + ", 3, " + what + ")", x.under(g, 3, what), 0);
            }
            due("row(" + g + ", bids, -1, 0)", x.row(g, false, -1, 0), 0);
            due("row(" + g + ", asks, -1, 0)", x.row(g, true, -1, 0), 0);
            due("match(" + g + ", -1, 0)", x.match(g, -1, 0), 0);
            due("ties(" + g + ")", x.ties(g), 1);
            due("feeing(" + g + ", 500, 0)", x.feeing(g, 500, 0), 0);
            due("feeing(" + g + ", 0, 1)", x.feeing(g, 0, 1), 0);
            due("entry(false, " + g + ")", x.entry(false, g), -2);
            due("entry(true, " + g + ")", x.entry(true, g), -2);
            due("ranked(" + g + ", -1)", x.ranked(g, -1), 0);
            due("ranked(" + g + ", 0)", x.ranked(g, 0), -2);
            due("skim(" + g + ", 0, 0)", x.skim(g, 0, 0), 0);
            due("skim(" + g + ", 20, 1)", x.skim(g, 20, 1), 0);
            due("close(" + g + ")", x.close(g), -2);
        }
        for (int what = 0; what <= 5; what++) {
            due("audit(" + what + ")", x.audit(what), audit[what]);
            due("trader(0, " + what + ")", x.trader(0, what), MIN);
        }
        for (int what = 0; what <= 2; what++) {
            due("served(" + what + ")", x.served(what), 0);
        }
        for (int what = 0; what <= 8; what++) {
            due("count(" + what + ")", x.count(what), 0);
        }
        newObjectWithoutTraders(x);
    }

    private static void newObjectWithoutTraders(TradeHall x) {
        due("bestFee(0)", x.bestFee(0), 0);
        due("bestFee(1)", x.bestFee(1), 0);
        due("share()", x.share(), 0x7ff8000000000000L);
        due("letter(-1)", x.letter(-1), 0);
        due("letter(0)", x.letter(0), -2);
        due("deal(0, 0)", x.deal(0, 0), MIN);
        due("lie(0, 0)", x.lie(0, 0), MIN);
        due("tempted(0, 0)", x.tempted(0, 0), MIN);
        due("missed(0)", x.missed(0), -1);
        due("bar(0)", x.bar(0), MIN);
        due("helps(0, 1)", x.helps(0, 1), MIN);
        due("pact(0, 1, 0)", x.pact(0, 1, 0), MIN);
        due("moved(0, 0)", x.moved(0, 0), MIN);
        due("add(0, 5)", x.add(0, 5), -1);
        due("say(0, 0, 5)", x.say(0, 0, 5), -1);
        due("leave(0)", x.leave(0), -1);
        due("fee(0)", x.fee(0), -2);
        due("law(0)", x.law(0), -2);
        due("undo()", x.undo(), -1);
        due("back(0)", x.back(0), -2);
        due("back(1)", x.back(1), -2);
        due("end(0)", x.end(0), 0);
        due("end(1)", x.end(1), -1);
        due("tell() of an empty TAPE", x.tell(), 0);
    }

    /** What one object is told, another one does not know. */
    private static void objectsApart() {
        promise = 1;
        TradeHall x = new TradeHall();
        TradeHall y = new TradeHall();
        x.come(false, 0);
        x.add(0, 9);
        x.come(true, 0);
        x.add(1, 5);
        x.law(1);
        x.fee(1);
        x.keep(0);
        x.close(0);
        x.feed(0, 0, 0, 0, 0);
        dueSame("another object", all(y), all(new TradeHall()));
        due("back of another's shelf", y.back(0), -2);
        due("undo of another's act", y.undo(), -1);
    }

    private static void feed() {
        promise = 2;
        TradeHall x = new TradeHall();
        // buye r 0_ 98 7 6;fe e 12: of each number the highest first
        due("feed", x.feed(0x62757965, 0x72203020, 0x39382037, 0x363b6665, 0x65203132), 20);
        due("feed of zeros: bytes as well", x.feed(0, 0, 0, 0, 0), 40);
        due("end", x.end(20), 20);
        due("tell", x.tell(), 1);
        dueText("feed", x, "buyer 0 98 76;fee 12");
        x.feed(0, 0, 0, 0, 0);
        due("tell of byte 0", x.tell(), -3);
        x.feed(-1, 0, 0, 0, 0);
        due("tell of byte 255 from a number below 0", x.tell(), -3);
        x.feed(0x20202020, 0x20202020, 0x20202020, 0x20202020, 0x202020ff);
        due("tell of byte 255, the 20th", x.tell(), -2 - (8 * 19 + 1));
        x.feed(0x20202020, MIN | 0x202020, 0x20202020, 0x20202020, 0x20202020);
        due("tell of byte 160", x.tell(), -2 - (8 * 4 + 1));
        // more than 400: none comes
        for (int size : of(381, 382, 399, 400)) {
            TradeHall full = new TradeHall();
            for (int i = 1; i <= 20; i++) {
                due("feed " + i, full.feed(0x20202020, 0x20202020, 0x20202020, 0x20202020,
                        0x20202020), 20 * i);
            }
            full.end(size);
            due("feed behind " + size, full.feed(0, 0, 0, 0, 0), -1);
            due("bytes", full.count(5), size);
            due("tell: none came", full.tell(), 0);
            due("feed behind none", full.feed(0, 0, 0, 0, 0), 20);
        }
        TradeHall just = new TradeHall();
        put(just, " ".repeat(380));
        due("feed to 400", just.feed(0, 0, 0, 0, 0), 400);
        due("tell: they came", just.tell(), -2 - (8 * 380 + 1));
    }

    private static void end() {
        promise = 3;
        TradeHall x = new TradeHall();
        put(x, "buyer 0 98 76;fee 12");
        due("all", x.end(20), 20);
        due("one more", x.end(21), -1);
        due("ten", x.end(10), 10);
        due("those behind are gone", x.end(11), -1);
        due("bytes", x.count(5), 10);
        due("tell", x.tell(), 1);
        dueText("the first alone", x, "buyer 0 98");
        put(x, "buyer 0 98 76");
        x.end(9);
        put(x, "; seller 1");
        due("bytes behind the end", x.count(5), 19);
        due("tell", x.tell(), 2);
        dueText("those behind the end", x, "buyer 0 9;seller 1");
        put(x, "x");
        due("none", x.end(0), 0);
        due("one of none", x.end(1), -1);
        due("tell of none", x.tell(), 0);
    }

    /** The told text stands as the other one; and it is no act. */
    private static void dueTold(String text, int traders, String want) {
        TradeHall x = told("seller 3 7;fee 9;law less");
        x.fee(8);
        put(x, text);
        due("tell of '" + text + "'", x.tell(), traders);
        dueText("tell of '" + text + "'", x, want);
        due("bytes after '" + text + "'", x.count(5), 0);
        due("acts after '" + text + "'", x.count(4), 0);
        due("undo after '" + text + "'", x.undo(), -1);
    }

    private static void tellOfNothing() {
        promise = 4;
        dueTold("", 0, "");
        dueTold(" ", 0, "");
        dueTold(" ".repeat(400), 0, "");
        dueTold("fee 0", 0, "");
        dueTold("law cut", 0, "");
        dueTold("fee 1", 0, "fee 1");
        dueTold("law less;fee 500", 0, "fee 500;law less");
        dueTold("buyer0", 1, "buyer 0");
        dueTold("buyer0;seller3", 2, "buyer 0;seller 3");
        dueTold("  fee  3 ;  law  middle ; buyer  2  5  4   ", 1, "buyer 2 5 4;fee 3;law middle");
        dueFault(";", 0, 1);
        dueFault(" ; ", 1, 1);
        dueFault(";buyer 0", 0, 1);
        dueFault("buyer 0;", 8, 1);
        dueFault("buyer 0 ; ", 10, 1);
        dueFault("buyer 0;;buyer 0", 8, 1);
        dueFault("buyer 0 ; ; buyer 0", 10, 1);
        dueFault("buyer 0:", 7, 1);
        dueFault("sel ler 0", 0, 1);
        dueFault("seller\t0", 6, 1);
        dueFault("seller 0\n", 8, 1);
        dueFault("\u00a0seller 0", 0, 1);
        dueFault("seller 0 7\u00a0", 10, 1);
        dueFault("seller 0 7buyer 0", 10, 1);
        dueFault("seller 0buyer 0", 8, 1);
        dueFault("sellerbuyer 0", 0, 1);
        dueFault("sell 0", 0, 1);
        dueFault("Seller 0", 0, 1);
        dueFault("selleR 0", 0, 1);
        dueFault("seller;", 6, 1);
        dueFault("seller -1", 7, 1);
        dueFault("seller 0 -1", 9, 1);
        dueFault("seller 0 +1", 9, 1);
        dueFault("seller 0,1", 8, 1);
        dueFault("seller fee 1", 7, 1);
        dueFault("fee", 3, 1);
        dueFault("fee ", 4, 1);
        dueFault("fee;", 3, 1);
        dueFault("fees 1", 0, 1);
        dueFault("fee 1x", 5, 1);
        dueFault("fee 1 2", 6, 1);
        dueFault("law", 3, 1);
        dueFault("law  ", 5, 1);
        dueFault("law ;", 4, 1);
        dueFault("law Cut", 4, 1);
        dueFault("law cu", 4, 1);
        dueFault("law cutt", 4, 1);
        dueFault("law fee", 4, 1);
        dueFault("law 0", 4, 1);
        dueFault("law cut0", 7, 1);
        dueFault("law cut cut", 8, 1);
        dueFault("cut", 0, 1);
        dueFault("0", 0, 1);
    }

    private static void tellOfNumbers() {
        promise = 4;
        // digits as far as they go on, however many
        dueTold("seller 001 00012 0000000000000009999;buyer 0", 2, "seller 1 12 9999;buyer 0");
        dueTold("seller1 2 34", 1, "seller 1 2 34");
        dueTold("seller 00 0 0 0 0", 1, "seller 0 0 0 0 0");
        dueTold("fee 0500", 0, "fee 500");
        dueTold("fee 499", 0, "fee 499");
        dueFault("buyer 4", 6, 2);
        dueFault("buyer 10", 6, 2);
        dueFault("buyer 4294967296", 6, 2);
        dueFault("seller  04 5", 8, 2);
        dueFault("seller 12 34", 7, 2);
        dueFault("fee 501", 4, 2);
        dueFault("fee 4294967297", 4, 2);
        dueFault("fee  9999", 5, 2);
        dueTold("buyer 3 9999;seller 3 9999", 2, "buyer 3 9999;seller 3 9999");
        dueFault("buyer 3 10000", 8, 2);
        dueFault("seller 3 10000", 9, 2);
        dueFault("buyer 3 4294967296", 8, 2);
        dueFault("buyer 3 18446744073709551617", 8, 2);
        // none above the one ahead, none below the one ahead
        dueTold("buyer 0 5 5 4 4;seller 0 5 5 6 6", 2, "buyer 0 5 5 4 4;seller 0 5 5 6 6");
        dueFault("buyer 0 5 6", 10, 2);
        dueFault("buyer 0 5 5 4 5", 14, 2);
        dueFault("seller 0 6 5", 11, 2);
        dueFault("seller 0 5 5 6 5", 15, 2);
        dueFault("buyer 0 0 1", 10, 2);
        dueFault("seller 0 9999 9998", 14, 2);
        // each TRADER begins anew
        dueTold("buyer 0 5;buyer 0 9;seller 0 5;seller 0 1", 4,
                "buyer 0 5;buyer 0 9;seller 0 5;seller 0 1");
        // the first place that is wrong
        dueFault("buyer 4 10000;x", 6, 2);
        dueFault("buyer 0 10000 x", 8, 2);
        dueFault("buyer x 10000", 6, 1);
        dueFault("buyer 0 5 6 7", 10, 2);
        dueFault("buyer 0 10000 10000", 8, 2);
        dueFault("seller 0 5 4 3 10000", 11, 2);
        dueFault("buyer 0 5 4 3 2 1;x", 16, 3);
    }

    private static void tellOfMany() {
        promise = 4;
        dueTold("buyer 0 4 3 2 1", 1, "buyer 0 4 3 2 1");
        dueFault("buyer 0 4 3 2 1 0", 16, 3);
        dueFault("buyer 0 4 3 2 1 1", 16, 3);
        dueFault("seller 0 1 2 3 4 5", 17, 3);
        dueFault("buyer0 4 3 2 1   0000", 17, 3);
        // of one place the least
        dueFault("buyer 0 4 3 2 1 2", 16, 2);
        dueFault("buyer 0 4 3 2 1 10000", 16, 2);
        dueFault("seller 0 1 2 3 4 3", 17, 2);
        dueFault("seller 0 1 2 3 4 10000", 17, 2);
        dueFault("fee 1;fee 1", 6, 3);
        dueFault("fee 0; fee 0", 7, 3);
        dueFault("fee 1;buyer 0;fee", 14, 3);
        dueFault("fee 1;fee 501", 6, 3);
        dueFault("fee 1;fees", 6, 1);
        dueFault("law less;law less", 9, 3);
        dueFault("law cut;law less", 8, 3);
        dueFault("law cut;law x", 8, 3);
        dueFault("law cut;laws", 8, 1);
        dueFault("law cut;law", 8, 3);
        String nineteen = "buyer 0;" + "seller 1;".repeat(18);
        String twenty = nineteen + "buyer 2";
        TradeHall x = told(twenty + ";fee 7;law apart");
        due("twenty", x.count(0), 20);
        due("come behind twenty", x.come(false, 0), -2);
        dueText("twenty", x, twenty + ";fee 7;law apart");
        int end = twenty.length();
        dueFault(twenty + ";buyer 0", end + 1, 3);
        dueFault(twenty + " ;  seller 0", end + 4, 3);
        dueFault(twenty + ";buyer", end + 1, 3);
        dueFault(twenty + ";buyer 4", end + 1, 3);
        dueFault(twenty + ";fee 1;buyer 0", end + 7, 3);
        dueFault(twenty + ";buy 0", end + 1, 1);
        dueFault(twenty + ";", end + 1, 1);
        dueFault(nineteen, nineteen.length(), 1);
        tellOfFourHundred();
    }

    private static void tellOfFourHundred() {
        String twenty = "buyer 0 999 99 9 0;".repeat(19) + "buyer 0 999 99 9 0";
        TradeHall x = told(" ".repeat(21) + twenty);
        due("a text of 400 bytes", x.count(0), 20);
        due("its units", x.count(1), 80);
        dueText("a text of 400 bytes", x, twenty);
        dueFault(" ".repeat(20) + twenty + ";", 400, 1);
        dueFault(" ".repeat(20) + twenty + "x", 399, 1);
        dueFault(" ".repeat(19) + twenty + " 0", 399, 3);
        dueFault(" ".repeat(399) + ";", 399, 1);
        dueFault("buyer" + " ".repeat(395), 400, 1);
        dueFault("buyer 0 " + "0".repeat(390) + "5;", 400, 1);
        dueFault("buyer 0 " + "9".repeat(392), 8, 2);
        dueTold("buyer 0 " + "0".repeat(388) + "9999", 1, "buyer 0 9999");
        dueFault("x".repeat(400), 0, 1);
        dueFault(";".repeat(400), 0, 1);
    }

    /** In place of the hall there was; a fault leaves all but the tape. */
    private static void tellInPlace() {
        promise = 4;
        TradeHall x = told("buyer 1 9 8;seller 1 2 3;fee 1;law middle");
        x.keep(1);
        x.close(1);
        String before = all(x);
        put(x, "buyer 0;buyer 0;fee 501");
        due("tell of a fault", x.tell(), -2 - (8 * 20 + 2));
        dueSame("tell of a fault", all(x), before);
        put(x, "buyer 1 9;seller 1 9");
        due("tell", x.tell(), 2);
        dueText("tell", x, "buyer 1 9;seller 1 9");
        for (int what : of(0, 1, 2, 4, 5)) {
            due("audit(" + what + ")", x.audit(what), 0);
        }
        for (int t = 0; t < 2; t++) {
            due("purse " + t, x.trader(t, 3), 0);
            due("bought or sold " + t, x.trader(t, 5), 0);
        }
        due("undo", x.undo(), -1);
        due("the shelf stays", x.back(1), 2);
        dueText("the shelf stays", x, "buyer 1 9 8;seller 1 2 3;fee 1;law middle");
    }

    private static void come() {
        promise = 5;
        TradeHall x = told("buyer 0;".repeat(18) + "buyer 0");
        due("the 20th", x.come(true, 3), 19);
        due("it sells", x.trader(19, 0), 1);
        due("its grade", x.trader(19, 1), 3);
        due("units of the 20th", x.add(19, 9999), 1);
        due("a 21st", x.come(true, 3), -2);
        due("a 21st to buy", x.come(false, 0), -2);
        due("a 21st without a grade", x.come(true, 4), -1);
        due("a 21st without a grade", x.come(true, -1), -1);
        due("traders", x.count(0), 20);
        due("acts", x.count(4), 2);
        due("leave makes no room", x.leave(19), 1);
        due("a 21st", x.come(true, 3), -2);
        // without UNITS, whoever stood there once
        TradeHall y = told("buyer 0 9 8 7 6;seller 0 1 2 3 4;law middle");
        y.close(0);
        put(y, "seller 2 5");
        y.tell();
        due("come", y.come(false, 1), 1);
        int[] want = {0, 1, 0, 0, 0, 0};
        for (int what = 0; what <= 5; what++) {
            due("trader(1, " + what + ")", y.trader(1, what), want[what]);
        }
        due("unit 0", y.trader(1, 10), MIN);
        dueText("come", y, "seller 2 5;buyer 1");
    }

    private static void add() {
        promise = 6;
        TradeHall x = told("buyer 1;seller 1");
        due("the least", x.add(1, 0), 1);
        due("the greatest", x.add(1, 9999), 2);
        due("below the one ahead", x.add(1, 9998), -3);
        due("like the one ahead", x.add(1, 9999), 3);
        due("the 4th", x.add(1, 9999), 4);
        due("a 5th", x.add(1, 9999), -2);
        due("a 5th, below the one ahead: -2 ahead of -3", x.add(1, 0), -2);
        due("a 5th without that value: NONE ahead of -2", x.add(1, 10000), -1);
        due("a 5th without that value: NONE ahead of -2", x.add(1, -1), -1);
        due("the greatest", x.add(0, 9999), 1);
        due("the least", x.add(0, 0), 2);
        due("above the one ahead", x.add(0, 1), -3);
        due("like the one ahead", x.add(0, 0), 3);
        due("the 4th", x.add(0, 0), 4);
        due("a 5th", x.add(0, 0), -2);
        due("a 5th, above the one ahead: -2 ahead of -3", x.add(0, 9999), -2);
        due("acts: the eight that were not refused", x.count(4), 8);
        dueText("add", x, "buyer 1 9999 0 0 0;seller 1 0 9999 9999 9999");
        // the one ahead is the last one that is left
        TradeHall y = told("buyer 0 9 5;seller 0 1 8;buyer 0 4;law middle");
        y.close(0);
        dueText("close", y, "buyer 0 5;seller 0 8;buyer 0 4;law middle");
        due("above what is left", y.add(0, 6), -3);
        due("like what is left", y.add(0, 5), 2);
        due("below what is left", y.add(1, 7), -3);
        due("like what is left", y.add(1, 8), 2);
        y.leave(0);
        due("where none is left", y.add(0, 9999), 1);
        y.leave(1);
        due("where none is left", y.add(1, 0), 1);
    }

    private static void say() {
        promise = 7;
        TradeHall x = told("buyer 0 9 5 1;seller 0 1 5 9;buyer 0 7;seller 0 7");
        due("above the one ahead", x.say(0, 1, 10), -3);
        due("below the one behind", x.say(0, 1, 0), -3);
        due("the first below the one behind", x.say(0, 0, 4), -3);
        due("the last above the one ahead", x.say(0, 2, 6), -3);
        due("below the one ahead", x.say(1, 1, 0), -3);
        due("above the one behind", x.say(1, 1, 10), -3);
        due("the first above the one behind", x.say(1, 0, 6), -3);
        due("the last below the one ahead", x.say(1, 2, 4), -3);
        for (int t = 0; t < 2; t++) {
            for (int unit = 0; unit < 3; unit++) {
                due("it is so", x.say(t, unit, x.trader(t, 10 + unit)), -2);
            }
            due("a unit that it has not", x.say(t, 3, 5), -1);
            due("a unit that it has not", x.say(t + 2, 1, 7), -1);
        }
        due("acts", x.count(4), 0);
        due("like the one ahead", x.say(0, 1, 9), 5);
        due("like the one behind", x.say(0, 1, 1), 9);
        due("the first like the one behind", x.say(0, 0, 1), 9);
        due("the first: the greatest", x.say(0, 0, 9999), 1);
        due("the last like the one ahead, as it is", x.say(0, 2, 1), -2);
        due("the last: the least", x.say(0, 2, 0), 1);
        due("like the one ahead", x.say(1, 1, 1), 5);
        due("like the one behind", x.say(1, 1, 9), 1);
        due("the first like the one behind", x.say(1, 0, 9), 1);
        due("the first: the least", x.say(1, 0, 0), 9);
        due("the last: the greatest", x.say(1, 2, 9999), 9);
        due("the only one: the greatest", x.say(2, 0, 9999), 7);
        due("the only one: the least", x.say(2, 0, 0), 9999);
        due("the only one: the greatest", x.say(3, 0, 9999), 7);
        due("the only one: the least", x.say(3, 0, 0), 9999);
        due("a value that is none, of a unit that it has not", x.say(2, 1, 10000), -1);
        dueText("say", x, "buyer 0 9999 1 0;seller 0 0 9 9999;buyer 0 0;seller 0 0");
    }

    private static void leave() {
        promise = 8;
        TradeHall x = told("buyer 0 9 8 7 6;seller 0 5;seller 0");
        due("without units", x.leave(2), -1);
        due("four", x.leave(0), 4);
        due("again", x.leave(0), -1);
        due("one", x.leave(1), 1);
        due("acts", x.count(4), 2);
        due("traders stay", x.count(0), 3);
        due("no unit", x.trader(0, 10), MIN);
        due("say of what is gone", x.say(0, 0, 5), -1);
        TradeHall y = told("buyer 0 9 1;seller 0 5;law middle");
        y.close(0);
        due("what CLOSE left", y.leave(0), 1);
        due("what CLOSE left: none", y.leave(1), -1);
        due("the purse stays", y.trader(0, 3), -7);
        due("what it bought stays", y.trader(0, 5), 1);
    }

    private static void feeAndLaw() {
        promise = 9;
        TradeHall x = told("buyer 0 500;seller 0 0;law middle");
        due("it is so", x.fee(0), -2);
        due("the greatest", x.fee(500), 0);
        due("it is so", x.fee(500), -2);
        due("the trade just stands", x.market(0, 0), 1);
        due("the seller has the rest", x.market(0, 4), 0);
        due("the least", x.fee(0), 500);
        due("acts", x.count(4), 2);
        promise = 10;
        for (int law = 0; law < 4; law++) {
            TradeHall y = told("law " + new String[] {"cut", "middle", "less", "apart"}[law]);
            due("it is so", y.law(law), -2);
            due("acts", y.count(4), 0);
            int other = 3 - law;
            due("another one", y.law(other), law);
            due("it is so", y.law(other), -2);
            due("the law", y.count(3), other);
            due("acts", y.count(4), 1);
        }
    }

    private static void close() {
        promise = 11;
        String lone = "buyer 0 9;seller 0 5";
        due("one trade, dropped by CUT", told(lone).close(0), -2);
        due("one trade, dropped by LESS", told(lone + ";law less").close(0), -2);
        due("one trade by MIDDLE", told(lone + ";law middle").close(0), 1);
        due("one trade by APART", told(lone + ";law apart").close(0), 1);
        due("no trade", told("buyer 0 4;seller 0 5;law middle").close(0), -2);
        due("no seller", told("buyer 0 4;law apart").close(0), -2);
        due("another grade", told(lone + ";law middle").close(1), -2);
        TradeHall x = told("buyer 3 9 8 7;seller 3 1 2 9;buyer 1 9;seller 1 1;law middle");
        due("close", x.close(3), 2);
        dueText("the first ones go", x, "buyer 3 7;seller 3 9;buyer 1 9;seller 1 1;law middle");
        // (8 + 2) / 2 = 5
        int[] purses = {-10, 10, 0, 0};
        int[] traded = {2, 2, 0, 0};
        for (int t = 0; t < 4; t++) {
            due("purse " + t, x.trader(t, 3), purses[t]);
            due("bought or sold " + t, x.trader(t, 5), traded[t]);
        }
        due("none is left", x.close(3), -2);
        due("the other grade", x.close(1), 1);
        due("closes", x.audit(5), 2);
        due("acts", x.count(4), 2);
        due("all purses", x.audit(1), 0);
        // the FEE stays in the hall; PURSES go on
        TradeHall y = told("buyer 0 9;seller 0 4;fee 1;law middle");
        y.close(0);
        y.add(0, 20);
        y.add(1, 8);
        y.fee(2);
        due("again", y.close(0), 1);
        // 7 and 6, then 15 and 13
        due("purse below 0", y.trader(0, 3), -22);
        due("purse", y.trader(1, 3), 19);
        due("chest", y.audit(0), 3);
        due("bought", y.trader(0, 5), 2);
        due("greatest takings", y.audit(4), 2);
    }

    /** Ten buyers of four UNITS at 9999 each, ten sellers at 0. */
    private static TradeHall greatest() {
        TradeHall x = new TradeHall();
        for (int t = 0; t < 20; t++) {
            x.come(t >= 10, 3);
            for (int unit = 0; unit < 4; unit++) {
                x.add(t, t >= 10 ? 0 : 9999);
            }
        }
        return x;
    }

    private static void closeOfTheGreatest() {
        promise = 11;
        TradeHall x = greatest();
        due("CUT has no next ones: as LESS", x.market(3, 2), 39);
        x.law(3);
        int[] market = {40, 399960, 40, -2, -2, -399960, 0, 9999, 0};
        for (int what = 0; what <= 8; what++) {
            due("market(3, " + what + ")", x.market(3, what), market[what]);
        }
        due("close", x.close(3), 40);
        for (int t = 0; t < 20; t++) {
            due("purse " + t, x.trader(t, 3), t < 10 ? 0 : 39996);
            due("units " + t, x.trader(t, 2), 0);
            due("bought or sold " + t, x.trader(t, 5), 4);
        }
        int[] audit = {-399960, 399960, 40, 10, -399960, 1};
        for (int what = 0; what <= 5; what++) {
            due("audit(" + what + ")", x.audit(what), audit[what]);
        }
        due("none is left", x.close(3), -2);
        due("undo", x.undo(), 9);
        due("all units again", x.count(1), 80);
        due("chest", x.audit(0), 0);
        x.law(1);
        due("close", x.close(3), 40);
        due("a buyer's purse", x.trader(0, 3), -4 * 4999);
        due("a seller's purse", x.trader(19, 3), 4 * 4999);
        due("chest", x.audit(0), 0);
        TradeHall y = greatest();
        y.fee(500);
        y.law(2);
        due("close", y.close(3), 39);
        due("chest", y.audit(0), 39 * 9999);
        due("the last buyer's purse", y.trader(9, 3), -3 * 9999);
        due("the last seller's purse", y.trader(19, 3), 0);
        due("the last seller's unit", y.trader(19, 13), MIN);
        due("the last seller's unit", y.trader(19, 10), 0);
    }

    private static void undoOf(String call, Act act) {
        TradeHall x = told("buyer 0 9 5;seller 0 1;seller 0 3 4;law middle;fee 1");
        x.fee(2);
        put(x, "fee 3");
        String before = all(x);
        dueOther(call, Math.max(-1, act.on(x)), -1);
        due("acts behind " + call, x.count(4), 2);
        due("undo of " + call, x.undo(), 1);
        dueSame("undo of " + call, all(x), before);
        due("undo of fee", x.undo(), 0);
        due("fee", x.count(2), 1);
        due("undo of none", x.undo(), -1);
    }

    private static void undoOfEach() {
        promise = 12;
        due("undo of none", new TradeHall().undo(), -1);
        undoOf("come", x -> x.come(true, 3));
        undoOf("add", x -> x.add(0, 5));
        undoOf("say", x -> x.say(2, 1, 9));
        undoOf("leave", x -> x.leave(2));
        undoOf("fee", x -> x.fee(0));
        undoOf("law", x -> x.law(3));
        undoOf("close", x -> x.close(0));
    }

    private static void undoOfTen() {
        promise = 12;
        TradeHall x = new TradeHall();
        for (int pence = 1; pence <= 10; pence++) {
            x.fee(pence);
        }
        due("ten acts", x.count(4), 10);
        for (int left = 9; left >= 0; left--) {
            due("undo", x.undo(), left);
            due("fee", x.count(2), left);
        }
        due("an 11th", x.undo(), -1);
        for (int pence = 1; pence <= 11; pence++) {
            x.fee(pence);
        }
        due("eleven acts", x.count(4), 10);
        for (int left = 9; left >= 0; left--) {
            due("undo", x.undo(), left);
        }
        due("the first of eleven is not undone", x.undo(), -1);
        due("the first of eleven stays", x.count(2), 1);
        // an act behind an undo takes the place of the one that was undone
        for (int pence = 20; pence < 40; pence++) {
            x.fee(pence);
            if (pence % 3 == 0) {
                x.undo();
            }
        }
        due("fee", x.count(2), 38);
        int[] left = {37, 35, 34, 32, 31, 29, 28, 26, 25};
        // 39 was undone, so nine can be of the last ten
        due("acts", x.count(4), 9);
        for (int i = 0; i < 9; i++) {
            due("undo", x.undo(), 8 - i);
            due("fee", x.count(2), left[i]);
        }
        due("undo", x.undo(), -1);
    }

    /** Two halls of the same acts, one of which hears calls between that are refused. */
    private static void refusedActs() {
        promise = 12;
        TradeHall x = lived();
        TradeHall y = lived();
        // 2, 3 have four units, 0 says 60, 1 says 30, 19 has none; FEE 2, LAW 1, SHELF 1 empty
        Call[] refused = {
            (h, a) -> h.feed(1, 2, 3, 4, 5), (h, a) -> h.end(401), (h, a) -> h.end(-1),
            (h, a) -> h.come(true, 4), (h, a) -> h.come(false, -1), (h, a) -> h.come(false, 0),
            (h, a) -> h.add(20, 5), (h, a) -> h.add(0, 10000), (h, a) -> h.add(2, 6),
            (h, a) -> h.add(3, 4), (h, a) -> h.add(1, 29), (h, a) -> h.add(0, 61),
            (h, a) -> h.say(20, 0, 5), (h, a) -> h.say(0, 1, 5), (h, a) -> h.say(2, 0, -1),
            (h, a) -> h.say(2, 0, 9), (h, a) -> h.say(2, 0, 7), (h, a) -> h.say(3, 0, 3),
            (h, a) -> h.leave(-1), (h, a) -> h.leave(20), (h, a) -> h.leave(19),
            (h, a) -> h.fee(501), (h, a) -> h.fee(-1), (h, a) -> h.fee(2),
            (h, a) -> h.law(4), (h, a) -> h.law(-1), (h, a) -> h.law(1),
            (h, a) -> h.close(4), (h, a) -> h.close(-1), (h, a) -> h.close(3),
            (h, a) -> h.keep(2), (h, a) -> h.keep(-1), (h, a) -> h.back(2), (h, a) -> h.back(1),
        };
        int[] answers = {-1, -1, -1, -1, -1, -2, -1, -1, -2, -2, -3, -3, -1, -1, -1, -2, -3, -3,
            -1, -1, -1, -1, -1, -2, -1, -1, -2, -1, -1, -2, -1, -1, -1, -2};
        String as = all(y);
        for (int i = 0; i < refused.length; i++) {
            due("call " + i + ", which is refused", refused[i].of(x), answers[i]);
            dueSame("call " + i + ", which is refused", all(x), as);
        }
        for (int i = 0; i <= 10; i++) {
            due("undo", x.undo(), y.undo());
            dueSame("undo behind refused calls", all(x), all(y));
        }
        due("back", x.back(0), y.back(0));
        dueSame("back behind refused calls", all(x), all(y));
    }

    private static TradeHall lived() {
        TradeHall x = told("buyer 0 90 70;seller 0 10 20 30;buyer 1 9 8 5 1;seller 1 1 2 3 4;law middle"
                + ";buyer 2".repeat(15));
        x.keep(0);
        x.fee(1);
        x.close(0);
        x.add(0, 60);
        x.come(true, 3);
        x.fee(2);
        put(x, "0123456789".repeat(40));
        return x;
    }

    private static void keepAndBack() {
        promise = 13;
        TradeHall x = new TradeHall();
        due("none kept", x.back(0), -2);
        due("keep of no traders", x.keep(0), 0);
        due("shelves", x.count(6), 1);
        put(x, "buyer 0 9;seller 0 4;fee 1;law middle");
        x.tell();
        x.close(0);
        due("the other shelf is still empty", x.back(1), -2);
        due("keep is no act", x.keep(1), 2);
        due("acts", x.count(4), 1);
        due("shelves", x.count(6), 3);
        due("back at once", x.back(1), 2);
        put(x, "tape");
        String kept = all(x);
        x.add(0, 7);
        x.fee(2);
        x.law(0);
        x.come(true, 3);
        promise = 14;
        due("back", x.back(1), 2);
        dueSame("back", all(x), kept);
        due("nothing can be undone", x.undo(), -1);
        due("chest", x.audit(0), 1);
        due("purse", x.trader(0, 3), -7);
        due("the tape stays", x.count(5), 4);
        x.leave(0);
        x.add(0, 3);
        x.fee(9);
        due("back again", x.back(1), 2);
        due("nothing can be undone", x.undo(), -1);
        dueText("what came behind is not kept", x, "buyer 0;seller 0;fee 1;law middle");
        due("back to no traders", x.back(0), 0);
        due("closes", x.audit(5), 0);
        due("fee", x.count(2), 0);
        due("shelves", x.count(6), 3);
        x.come(false, 2);
        due("keep anew", x.keep(0), 1);
        due("undo does not reach the shelf", x.undo(), 0);
        due("back", x.back(0), 1);
        due("back of the other one", x.back(1), 2);
        due("the tape stays", x.count(5), 4);
        // back is no act, and none that comes behind can be undone to ahead of it
        x.fee(7);
        due("undo behind back", x.undo(), 0);
        due("undo behind back", x.undo(), -1);
        due("fee", x.count(2), 1);
    }

    // ---- 15 to 23 ----

    private static void trader() {
        promise = 15;
        TradeHall x = told("buyer 3 9999 0;seller 0 0 9999 9999 9999;buyer 1");
        int[][] says = {{9999, 0, MIN, MIN}, {0, 9999, 9999, 9999}, {MIN, MIN, MIN, MIN}};
        for (int t = 0; t < 3; t++) {
            for (int unit = 0; unit < 4; unit++) {
                due("trader(" + t + ", " + (10 + unit) + ")", x.trader(t, 10 + unit), says[t][unit]);
            }
            for (int what : of(6, 7, 8, 9, 14, 15, MIN + 9, MIN + 10, MIN + 11, MAX)) {
                due("trader(" + t + ", " + what + ")", x.trader(t, what), MIN);
            }
        }
        due("units of none", x.trader(2, 2), 0);
        due("done of none", x.trader(2, 4), 0);
        // DONE by the LAW that stands
        TradeHall y = told("buyer 2 9 8 7;seller 2 5 6 7;law less");
        due("done by LESS", y.trader(0, 4), 2);
        y.law(1);
        due("done by MIDDLE", y.trader(0, 4), 3);
        due("done by MIDDLE", y.trader(1, 4), 3);
        y.fee(500);
        due("done with that fee", y.trader(1, 4), 0);
        y.fee(0);
        y.close(2);
        due("done behind the close", y.trader(0, 4), 0);
        due("bought", y.trader(0, 5), 3);
        due("units", y.trader(0, 2), 0);
        due("the first unit", y.trader(0, 10), MIN);
        y.add(0, 9);
        y.add(1, 5);
        y.close(2);
        due("bought by both closes", y.trader(0, 5), 4);
        due("purse of both closes", y.trader(0, 3), -28);
    }

    private static void row() {
        promise = 16;
        TradeHall x = greatest();
        due("bids", x.row(3, false, -1, 0), 40);
        due("asks", x.row(3, true, -1, 0), 40);
        x.fee(500);
        for (int k = 0; k < 40; k++) {
            due("of like bids the lesser trader", x.row(3, false, k, 0), k / 4);
            due("then the earlier unit", x.row(3, false, k, 1), k % 4);
            due("bid", x.row(3, false, k, 2), 9999);
            due("of like asks the lesser trader", x.row(3, true, k, 0), 10 + k / 4);
            due("then the earlier unit", x.row(3, true, k, 1), k % 4);
            due("ask with FEE", x.row(3, true, k, 2), 500);
        }
        due("behind the last bid", x.row(3, false, 40, 0), -1);
        due("behind the last ask", x.row(3, true, 40, 0), -1);
        due("another grade", x.row(2, false, 0, 0), -1);
        TradeHall y = told("seller 0 9999;buyer 0 0;fee 500");
        due("the greatest ask", y.row(0, true, 0, 2), 10499);
        due("the least bid", y.row(0, false, 0, 2), 0);
        due("a trader without units", told("buyer 0").row(0, false, -1, 0), 0);
        manyRows();
    }

    /** All 20 TRADERS on one side. */
    private static void manyRows() {
        for (int side = 0; side < 2; side++) {
            boolean sells = side == 1;
            TradeHall x = new TradeHall();
            for (int t = 0; t < 20; t++) {
                x.come(sells, 0);
                for (int unit = 0; unit < 4; unit++) {
                    x.add(t, sells ? 4 * t + unit : 9999 - 4 * t - unit);
                }
            }
            due("80 units", x.row(0, sells, -1, 0), 80);
            due("the last one's trader", x.row(0, sells, 79, 0), 19);
            due("the last one's unit", x.row(0, sells, 79, 1), 3);
            due("the last one", x.row(0, sells, 79, 2), sells ? 79 : 9920);
            due("one more", x.row(0, sells, 80, 2), -1);
            due("none of the others", x.row(0, !sells, -1, 0), 0);
            due("trades", x.market(0, 0), 0);
            due("served", x.served(0), 0);
            due("served, how many", x.served(1), 0);
            due("served again", x.served(0), 0);
            due("ties", x.ties(0), 1);
            due("entry of a buyer", x.entry(false, 0), sells ? 0 : -2);
            due("entry of a seller", x.entry(true, 0), sells ? -2 : 9999);
            due("demand", x.demand(0, sells ? 79 : 0, side), 80);
        }
    }

    private static void dueMarket(String text, int... want) {
        TradeHall x = told(text);
        for (int what = 0; what < want.length; what++) {
            due("market(0, " + what + ") of " + text, x.market(0, what), want[what]);
        }
    }

    private static void trades() {
        promise = 17;
        // the k-th BID is not less than the k-th ASK
        dueMarket("buyer 0 5;seller 0 5;law middle", 1, 0, 1, 5, 5, 0, 0, 5, 5);
        dueMarket("buyer 0 5;seller 0 6;law middle", 0, 0, 0, -2, -2, 0, 0, -2, -2);
        dueMarket("buyer 0 5;seller 0 4;fee 1;law middle", 1, 0, 1, 5, 4, 1, 0, 5, 5);
        dueMarket("buyer 0 5;seller 0 4;fee 2;law middle", 0, 0, 0, -2, -2, 0, 0, -2, -2);
        dueMarket("buyer 0 0;seller 0 0;law middle", 1, 0, 1, 0, 0, 0, 0, 0, 0);
        dueMarket("buyer 0 9999;seller 0 9999;law middle", 1, 0, 1, 9999, 9999, 0, 0, 9999, 9999);
        dueMarket("buyer 0 9999;seller 0 9499;fee 500;law middle",
                1, 0, 1, 9999, 9499, 500, 0, 9999, 9999);
        dueMarket("buyer 0 9999;seller 0 9500;fee 500;law middle", 0, 0, 0, -2, -2, 0, 0, -2, -2);
        // k BIDS and k ASKS: the shorter row ends them
        dueMarket("buyer 0 9 9 9;seller 0 1;law middle", 1, 8, 1, 5, 5, 0, 0, 9, 1);
        dueMarket("buyer 0 9;seller 0 1 1 1;law middle", 1, 8, 1, 5, 5, 0, 0, 9, 1);
        dueMarket("buyer 0;seller 0 1;law middle", 0, 0, 0, -2, -2, 0, 0, -2, -2);
        dueMarket("buyer 0 9;seller 0;law middle", 0, 0, 0, -2, -2, 0, 0, -2, -2);
        dueMarket("buyer 0 9;seller 1 1;law middle", 0, 0, 0, -2, -2, 0, 0, -2, -2);
    }

    private static void cut() {
        promise = 17;
        // without a next BID, a next ASK, both: as LESS
        dueMarket("buyer 0 9 8;seller 0 1 2 8", 2, 14, 1, 8, 2, 6, 6, 8, 2);
        dueMarket("buyer 0 9 8 2;seller 0 1 2", 2, 14, 1, 8, 2, 6, 6, 8, 2);
        dueMarket("buyer 0 9 8;seller 0 1 2", 2, 14, 1, 8, 2, 6, 6, 8, 2);
        // with both: (1 + 9) / 2, (1 + 8) / 2 downwards
        dueMarket("buyer 0 9 8 1;seller 0 1 2 9", 2, 14, 2, 5, 5, 0, 0, 8, 2);
        dueMarket("buyer 0 9 8 1;seller 0 1 2 8", 2, 14, 2, 4, 4, 0, 0, 8, 2);
        // above the LAST BID by one, as great as it (downwards from 8.5), with FEE
        dueMarket("buyer 0 9 8 7;seller 0 1 2 11", 2, 14, 1, 8, 2, 6, 6, 8, 2);
        dueMarket("buyer 0 9 8 7;seller 0 1 2 10", 2, 14, 2, 8, 8, 0, 0, 8, 2);
        dueMarket("buyer 0 9 8 7;seller 0 0 1 9;fee 1", 2, 14, 2, 8, 7, 2, 0, 8, 2);
        dueMarket("buyer 0 9 8 7;seller 0 0 1 10;fee 1", 2, 14, 1, 8, 1, 7, 6, 8, 2);
        // below the LAST ASK: (0 + 9) / 2 is 4 downwards; as small as it
        dueMarket("buyer 0 9 8 0;seller 0 1 5 9", 2, 11, 1, 8, 5, 3, 3, 8, 5);
        dueMarket("buyer 0 9 8 0;seller 0 1 4 9", 2, 12, 2, 4, 4, 0, 0, 8, 4);
        dueMarket("buyer 0 9 8 0;seller 0 0 3 8;fee 1", 2, 12, 2, 4, 3, 2, 0, 8, 4);
        // one trade, where CUT does as LESS: none is DONE, all of it is LOST
        dueMarket("buyer 0 9 1;seller 0 5 6", 1, 4, 0, -2, -2, 0, 4, 9, 5);
        // like ones on both sides of the LAST: the next ones are as they are
        dueMarket("buyer 0 9 9;seller 0 5 9", 2, 4, 1, 9, 9, 0, 0, 9, 9);
        dueMarket("buyer 0 9 9;seller 0 5 10", 1, 4, 1, 9, 9, 0, 0, 9, 5);
    }

    private static void lessAndMiddle() {
        promise = 17;
        dueMarket("buyer 0 9;seller 0 5;law less", 1, 4, 0, -2, -2, 0, 4, 9, 5);
        dueMarket("buyer 0 9 7;seller 0 4 5;law less", 2, 7, 1, 7, 5, 2, 2, 7, 5);
        dueMarket("buyer 0 9 7;seller 0 3 4;fee 1;law less", 2, 7, 1, 7, 4, 3, 2, 7, 5);
        dueMarket("buyer 0 9 7 1;seller 0 4 5 9;law less", 2, 7, 1, 7, 5, 2, 2, 7, 5);
        dueMarket("buyer 0 9;seller 0 4;law middle", 1, 5, 1, 6, 6, 0, 0, 9, 4);
        dueMarket("buyer 0 9;seller 0 5;law middle", 1, 4, 1, 7, 7, 0, 0, 9, 5);
        dueMarket("buyer 0 9;seller 0 4;fee 1;law middle", 1, 4, 1, 7, 6, 1, 0, 9, 5);
        dueMarket("buyer 0 9;seller 0 4;fee 5;law middle", 1, 0, 1, 9, 4, 5, 0, 9, 9);
        dueMarket("buyer 0 500;seller 0 0;fee 500;law less", 1, 0, 0, -2, -2, 0, 0, 500, 500);
        dueMarket("buyer 0 500 500;seller 0 0 0;fee 500;law less",
                2, 0, 1, 500, 0, 500, 0, 500, 500);
    }

    private static void dueDeals(String text, int... moneyAndGain) {
        TradeHall x = told(text);
        for (int t = 0; t < moneyAndGain.length / 2; t++) {
            due("deal(" + t + ", 0) of " + text, x.deal(t, 0), moneyAndGain[2 * t]);
            due("deal(" + t + ", 1) of " + text, x.deal(t, 1), moneyAndGain[2 * t + 1]);
        }
    }

    private static void apart() {
        promise = 18;
        dueDeals("buyer 0 9;seller 0 5;law apart", 5, 4, 9, 4);
        // WORTH 3: the buyer pays 0 - (3 - 9), the seller has 3 + 6 - 0 - 1
        dueDeals("buyer 0 9;seller 0 5;fee 1;law apart", 6, 3, 8, 3);
        dueDeals("buyer 0 5;seller 0 5;law apart", 5, 0, 5, 0);
        // none is DONE: none pays
        dueDeals("buyer 0 4;seller 0 5;law apart", 0, 0, 0, 0);
        dueDeals("buyer 0 9;seller 0 5;law cut", 0, 0, 0, 0);
        dueDeals("buyer 0;seller 0 5;law apart", 0, 0, 0, 0);
        // without 0 the WORTH is 8 - 5, without 1 it is 9 - 5; 1 is not DONE
        dueDeals("buyer 0 9;buyer 0 8;seller 0 5;law apart", 8, 1, 0, 0, 9, 4);
        // like BIDS: the lesser TRADER, for what the other one would pay
        dueDeals("buyer 0 9;buyer 0 9;seller 0 5;law apart", 9, 0, 0, 0, 9, 4);
        // several UNITS of one together: WORTH 9 - 1 + 8 - 2, without 0 (6 - 1), without 2 none
        dueDeals("buyer 0 9 8;buyer 0 6;seller 0 1 2;law apart", 6 + 2 - 1 - 1 + 2 - 1 + 1, 9,
                0, 0, 17, 14);
        dueMarket("buyer 0 9;seller 0 5;law apart", 1, 4, 1, -2, -2, -4, 0, 9, 5);
        dueMarket("buyer 0 9;seller 0 5;fee 4;law apart", 1, 0, 1, -2, -2, 4, 0, 9, 9);
        dueMarket("buyer 0 9;seller 0 5;fee 5;law apart", 0, 0, 0, -2, -2, 0, 0, -2, -2);
    }

    private static void dueLie(String text, int trader, int d, int want) {
        due("lie(" + trader + ", " + d + ") of " + text, told(text).lie(trader, d), want);
    }

    private static void lie() {
        promise = 19;
        String two = "buyer 0 600;seller 0 100;buyer 0;law middle";
        // (100 + 100) / 2, as far down as it may
        dueLie(two, 0, -500, 500);
        dueLie(two, 0, -501, MIN);
        dueLie(two, 1, 500, 500);
        dueLie(two, 1, 501, MIN);
        dueLie(two, 0, 0, 250);
        dueLie(two, 2, 500, 0);
        dueLie(two, 2, -500, 0);
        dueLie(two, 3, 0, MIN);
        dueLie(two, -1, 0, MIN);
        // one too many, and it does not trade
        dueLie("buyer 0 599;seller 0 100;law middle", 0, -500, 0);
        dueLie("buyer 0 599;seller 0 100;law middle", 0, -499, 499);
        // held to 0: the BID 0 just meets the ASK 0; not the ASK 1
        dueLie("buyer 0 7 3;seller 0 0 0;law middle", 0, 0, 8);
        dueLie("buyer 0 7 3;seller 0 0 0;law middle", 0, -3, 10);
        dueLie("buyer 0 7 3;seller 0 0 0;law middle", 0, -4, 10);
        dueLie("buyer 0 7 3;seller 0 0 0;law middle", 0, -500, 10);
        dueLie("buyer 0 7 3;seller 0 1 1;law middle", 0, -500, 0);
        // held to 0: (9 + 0) / 2 each, though both say more now
        dueLie("seller 0 3 5;buyer 0 9 9;law middle", 0, -500, 0);
        dueLie("seller 0 3 5;buyer 0 9 9;law middle", 0, -4, 10 - 8);
        // held to 9999, where the BID just meets it
        dueLie("seller 0 9600;buyer 0 9999;law middle", 0, 399, 399);
        dueLie("seller 0 9600;buyer 0 9999;law middle", 0, 400, 399);
        dueLie("seller 0 9600;buyer 0 9998;law middle", 0, 400, 0);
        // the LIE holds for all of its UNITS; GAIN by what it says now
        dueLie("buyer 0 8 6;seller 0 2 7;law middle", 0, 0, 3);
        dueLie("buyer 0 8 6;seller 0 2 7;law middle", 0, 1, 14 - 14);
        dueLie("buyer 0 8 6;seller 0 2 7;law middle", 0, -6, 6);
        // by APART no LIE is better, some are as good, some are worse
        dueLie("buyer 0 9;buyer 0 7;seller 0 5;law apart", 0, 500, 2);
        dueLie("buyer 0 9;buyer 0 7;seller 0 5;law apart", 0, -2, 2);
        dueLie("buyer 0 9;buyer 0 7;seller 0 5;law apart", 0, -3, 0);
        dueLie("buyer 0 9;buyer 0 7;seller 0 5;law apart", 1, 2, 0);
        dueLie("buyer 0 9;buyer 0 7;seller 0 5;law apart", 1, 3, -2);
    }

    private static void dueTempted(String text, int trader, int gain, int by) {
        TradeHall x = told(text);
        due("tempted(" + trader + ", 0) of " + text, x.tempted(trader, 0), gain);
        due("tempted(" + trader + ", 1) of " + text, x.tempted(trader, 1), by);
    }

    private static void tempted() {
        promise = 20;
        // down to -200, and no further: -201 would be one better
        dueTempted("buyer 0 300;seller 0 51;law middle", 0, 225, -200);
        dueTempted("buyer 0 300;seller 0 50;law middle", 0, 225, -199);
        // up to 200, and no further
        dueTempted("buyer 0 300;seller 0 50;law middle", 1, 225, 200);
        dueTempted("buyer 0 300;seller 0 51;law middle", 1, 224, 199);
        // 0 too, ahead of all that are as good
        dueTempted("buyer 0 5;seller 0 5;law middle", 0, 0, 0);
        dueTempted("buyer 0 5;seller 0 5;law apart", 1, 0, 0);
        dueTempted("buyer 0;seller 0 5;law middle", 0, 0, 0);
        // none trades, whatever it says
        dueTempted("buyer 0 5;seller 0 900;law middle", 0, 0, 0);
        dueTempted("buyer 0 5;seller 0 900;law middle", 1, 0, 0);
        // held to 0: -3 and all below it are one, the nearest to 0
        dueTempted("buyer 0 3;seller 0 0;law middle", 0, 3, -2);
        dueTempted("buyer 0 4;seller 0 0;law middle", 0, 4, -3);
        // of -1 and 1, which are as good, that below 0: one at 7 for 9, two at 8 for 9
        dueTempted("seller 0 4 7;buyer 0 9 9;buyer 0 6 4;buyer 0 10 7;law middle", 1, 2, -1);
    }

    private static void missed() {
        promise = 21;
        TradeHall x = told("buyer 0 9;seller 0 5;buyer 0;buyer 0 9;buyer 1 9;seller 0 10");
        int[] want = {0, 4, 0, 0, 0, 0};
        for (int t = 0; t < 6; t++) {
            due("missed(" + t + ")", x.missed(t), want[t]);
        }
        due("without it", x.missed(6), -1);
        due("the only buyer", told("buyer 0 9 8;seller 0 5 5").missed(0), 7);
        due("who is missed, though none is DONE", told("buyer 0 9;seller 0 5").missed(0), 4);
        due("the only buyer of like ones", told("buyer 0 5;seller 0 5").missed(0), 0);
    }

    private static void dueOpen(String text, int... want) {
        TradeHall x = told(text);
        for (int what = 0; what < 4; what++) {
            due("open(0, " + what + ") of " + text, x.open(0, what), want[what]);
        }
    }

    private static void open() {
        promise = 22;
        // above it, not like it; with FEE
        dueOpen("buyer 0 9;seller 0 8", 1, 1, 0, 1);
        dueOpen("buyer 0 9;seller 0 9", 0, 0, -2, -2);
        dueOpen("buyer 0 9;seller 0 8;fee 1", 0, 0, -2, -2);
        dueOpen("buyer 0 9;seller 0 7;fee 1", 1, 1, 0, 1);
        dueOpen("buyer 0 8;seller 0 9", 0, 0, -2, -2);
        dueOpen("buyer 0 9;seller 1 1", 0, 0, -2, -2);
        dueOpen("buyer 0 9", 0, 0, -2, -2);
        dueOpen("seller 0 9", 0, 0, -2, -2);
        // DONE ones are none
        dueOpen("buyer 0 9 8;seller 0 1 2;law middle", 0, 0, -2, -2);
        dueOpen("buyer 0 9 8 7;seller 0 1 2;law middle", 0, 0, -2, -2);
        dueOpen("buyer 0 9 8;seller 0 1 2 3;law apart", 0, 0, -2, -2);
        // one of each side: the dropped ones, and those that are above them
        dueOpen("buyer 0 9 8;seller 0 1 2;law less", 1, 6, 0, 1);
        dueOpen("buyer 0 9 8 7 6;seller 0 1 2;law less", 3, 6, 0, 1);
        dueOpen("buyer 0 9 8;seller 0 1 2 3 8;law less", 2, 6, 0, 1);
        // of several the first BID, then the first ASK
        dueOpen("buyer 0 9;buyer 0 9;seller 0 4;seller 0 4;law less", 1, 5, 1, 3);
        dueOpen("buyer 0 9;buyer 0 9;seller 0 4;law less", 2, 5, 0, 2);
        dueOpen("seller 0 4;seller 0 4;buyer 0 9;law less", 2, 5, 2, 0);
        dueOpen("buyer 0 8;buyer 0 9;seller 0 4;law less", 2, 5, 1, 2);
        dueOpen("seller 0 0;buyer 0 9999;law less", 1, 9999, 1, 0);
    }

    private static void ties() {
        promise = 23;
        due("without TRADES", told("buyer 0 5 5 5;seller 0 6 6").ties(0), 1);
        due("without bids", told("seller 0 6 6").ties(0), 1);
        due("all of the like ones", told("buyer 0 5 5;seller 0 5 5").ties(0), 1);
        due("one of four", told("buyer 0 5 5 5 5;seller 0 1").ties(0), 4);
        due("three of four", told("buyer 0 5 5 5 5;seller 0 1 1 1").ties(0), 4);
        due("two of four", told("buyer 0 5 5;buyer 0 5 5;seller 0 1 1").ties(0), 6);
        due("of asks two of four", told("buyer 0 5 5;seller 0 1 1;seller 0 1 1").ties(0), 6);
        due("of asks with FEE", told("buyer 0 5;seller 0 1 1 1;fee 4").ties(0), 3);
        due("of asks with FEE, above", told("buyer 0 5;seller 0 1 1 1;fee 5").ties(0), 1);
        due("like ones ahead of the LAST", told("buyer 0 9 9 5 5;seller 0 1 1 1").ties(0), 2);
        due("like ones behind the LAST", told("buyer 0 9 5 5 5;seller 0 1").ties(0), 1);
        due("of another grade", told("buyer 0 9;buyer 1 9;seller 0 1").ties(0), 1);
        // 20 of 60: the most that a hall of 20 TRADERS has on one side
        TradeHall x = new TradeHall();
        TradeHall y = new TradeHall();
        for (int t = 0; t < 20; t++) {
            x.come(t < 5, 2);
            y.come(t >= 6, 2);
            for (int unit = 0; unit < 4; unit++) {
                x.add(t, 7);
                y.add(t, 7);
            }
        }
        due("20 of 60 bids", x.ties(2), 4191844505805495L);
        due("24 of 56 asks", y.ties(2), choose(56, 24));
    }

    /** Row by row of Pascal's triangle. */
    private static long choose(int n, int k) {
        long[] row = new long[n + 1];
        row[0] = 1;
        for (int i = 1; i <= n; i++) {
            for (int j = i; j >= 1; j--) {
                row[j] += row[j - 1];
            }
        }
        return row[k];
    }

    // ---- 24 to 36 ----

    private static void underAndFeeing() {
        promise = 24;
        TradeHall x = told("buyer 0 9;seller 0 5");
        int[][] want = {{0, 0, 4}, {1, 0, 0}, {0, 0, 4}, {1, -4, 0}};
        for (int law = 0; law < 4; law++) {
            for (int what = 0; what < 3; what++) {
                due("under(0, " + law + ", " + what + ")", x.under(0, law, what), want[law][what]);
                due("under(1, " + law + ", " + what + ")", x.under(1, law, what), 0);
            }
        }
        due("the law stays", x.count(3), 0);
        x.fee(1);
        due("with FEE", x.under(0, 1, 1), 1);
        due("with FEE", x.under(0, 3, 1), -2);
        promise = 25;
        // the greatest FEE with which it trades, the least with which it does not
        TradeHall y = told("buyer 0 504;seller 0 5;fee 3;law middle");
        due("feeing(0, 499, 0)", y.feeing(0, 499, 0), 1);
        due("feeing(0, 499, 1)", y.feeing(0, 499, 1), 499);
        due("feeing(0, 500, 0)", y.feeing(0, 500, 0), 0);
        due("feeing(0, 500, 1)", y.feeing(0, 500, 1), 0);
        due("feeing(0, 0, 0)", y.feeing(0, 0, 0), 1);
        due("feeing(0, 0, 1)", y.feeing(0, 0, 1), 0);
        due("the fee stays", y.count(2), 3);
        y.say(0, 0, 505);
        due("feeing(0, 500, 1)", y.feeing(0, 500, 1), 500);
        due("TRADES, though none is DONE", x.feeing(0, 4, 0), 1);
        due("none is DONE", x.feeing(0, 4, 1), 0);
    }

    private static void dueBestFee(String text, int fee, int takings) {
        TradeHall x = told(text);
        due("bestFee(0) of " + text, x.bestFee(0), fee);
        due("bestFee(1) of " + text, x.bestFee(1), takings);
    }

    private static void bestFee() {
        promise = 26;
        dueBestFee("", 0, 0);
        dueBestFee("buyer 0 4;seller 0 5;law middle;fee 9", 0, 0);
        dueBestFee("buyer 0 5;seller 0 5;law middle", 0, 0);
        dueBestFee("buyer 0 504;seller 0 5;law middle", 499, 499);
        dueBestFee("buyer 0 505;seller 0 5;law middle", 500, 500);
        dueBestFee("buyer 0 506;seller 0 5;law middle", 500, 500);
        // none is DONE by LESS of one
        dueBestFee("buyer 0 506;seller 0 5;law less", 0, 0);
        // the TAKINGS of APART, 2 * FEE - 9999, are below 0 with every FEE
        dueBestFee("buyer 0 9999;seller 0 0;law apart", 500, -8999);
        // of several the least: one at 8, two at 4
        dueBestFee("buyer 0 9 5;seller 0 1 1;law middle", 4, 8);
        dueBestFee("buyer 0 9;seller 0 1;buyer 1 9;seller 1 5;law middle", 4, 8);
        dueBestFee("buyer 0 10;seller 0 1;buyer 3 9;seller 3 5;law middle", 9, 9);
    }

    private static void dueServed(String text, int much, int many, int more) {
        TradeHall x = told(text);
        due("served(0) of " + text, x.served(0), much);
        due("served(1) of " + text, x.served(1), many);
        due("served(2) of " + text, x.served(2), more);
    }

    private static void served() {
        promise = 27;
        // of its GRADE or a better one, not of a worse one
        dueServed("buyer 3 9;seller 3 1", 8, 1, 0);
        dueServed("buyer 3 9;seller 2 1", 8, 1, 8);
        dueServed("buyer 3 9;seller 0 1", 8, 1, 8);
        dueServed("buyer 2 9;seller 3 1", 0, 0, 0);
        dueServed("buyer 0 9;seller 1 1", 0, 0, 0);
        // the fewest: what is worth nothing is none
        dueServed("buyer 0 9;seller 0 9", 0, 0, 0);
        dueServed("buyer 1 9;seller 0 8;fee 1", 0, 0, 0);
        dueServed("buyer 1 9;seller 0 9", 0, 0, 0);
        dueServed("buyer 0 9 5;seller 0 5 9", 4, 1, 0);
        dueServed("buyer 0 9 5;seller 0 4 5", 5, 1, 0);
        dueServed("buyer 0 9 5;seller 0 4 4", 6, 2, 0);
        // a worse buyer takes a better seller's UNIT from a better buyer
        dueServed("buyer 0 6;buyer 1 9;seller 0 5", 4, 1, 3);
        // and gives it back where its own GRADE has one as good
        dueServed("buyer 0 6;buyer 1 9;seller 0 5;seller 1 5", 5, 2, 0);
        dueServed("buyer 0 6;buyer 1 9;seller 0 5;seller 1 7", 4, 1, 1);
        dueServed("buyer 3 4;buyer 2 4;seller 0 1;seller 1 1;buyer 0 9;buyer 1 9", 16, 2, 0);
        TradeHall x = greatest();
        due("the greatest", x.served(0), 399960);
        due("the greatest, how many", x.served(1), 40);
        due("the greatest, by how much", x.served(2), 0);
    }

    private static void share() {
        promise = 28;
        long nan = 0x7ff8000000000000L;
        due("no traders", new TradeHall().share(), nan);
        due("no trades", told("buyer 0 5;seller 0 6").share(), nan);
        due("trades without worth", told("buyer 0 5;seller 0 5;law middle").share(), nan);
        due("none is done", told("buyer 0 6;seller 0 5").share(), 0L);
        due("all are done", told("buyer 0 6;seller 0 5;law apart").share(), 0x3ff0000000000000L);
        due("the dropped one is worth nothing", told("buyer 0 6 5;seller 0 4 5").share(),
                0x3ff0000000000000L);
        due("a half", told("buyer 0 6 6;seller 0 5 5").share(), 0x3fe0000000000000L);
        due("all of one grade", told("buyer 0 6 4 3;seller 0 1 1 4;buyer 1 9;seller 1 8").share(),
                Double.doubleToLongBits(8.0 / 9.0));
        due("greatest", greatest().share(), Double.doubleToLongBits(39.0 / 40.0));
        for (int worth = 2; worth < 60; worth++) {
            TradeHall x = told("buyer 0 9 9;seller 0 8 8;law less;buyer 1 " + worth + ";seller 1 2");
            due("one of " + worth, x.share(), Double.doubleToLongBits(1.0 / (double) worth));
        }
    }

    private static void dueAudit(String call, TradeHall x, int... want) {
        for (int what = 0; what < want.length; what++) {
            due("audit(" + what + ") " + call, x.audit(what), want[what]);
        }
    }

    private static void audit() {
        promise = 29;
        dueAudit("without TRADERS", told("fee 7"), 0, 0, 0, -2, 0, 0);
        dueAudit("without CLOSES", told("buyer 0;buyer 0;seller 0"), 0, 0, 0, 0, 0, 0);
        // 3 is as rich as 2
        TradeHall x = told("buyer 0 9;buyer 1 9;seller 0 3;seller 1 3;law middle;fee 2");
        x.close(1);
        dueAudit("behind one close", x, 2, -2, 1, 3, 2, 1);
        x.close(0);
        dueAudit("behind both", x, 4, -4, 2, 2, 2, 2);
        x.undo();
        dueAudit("behind undo", x, 2, -2, 1, 3, 2, 1);
        x.undo();
        dueAudit("behind both undone", x, 0, 0, 0, 0, 0, 0);
        x.law(3);
        // WORTH 4: the buyer pays 5, the seller has 4 + 5 - 2
        x.close(0);
        dueAudit("by APART", x, -2, 2, 1, 2, -2, 1);
        x.law(1);
        x.close(1);
        dueAudit("the greatest of both", x, 0, 0, 2, 2, 2, 2);
        // one that takes nothing is a CLOSE as well
        TradeHall y = told("buyer 2 9;seller 2 3;law middle");
        y.close(2);
        dueAudit("without takings", y, 0, 0, 1, 1, 0, 1);
        y.close(2);
        dueAudit("behind a close that was refused", y, 0, 0, 1, 1, 0, 1);
        y.keep(0);
        put(y, "buyer 0");
        y.tell();
        dueAudit("behind tell", y, 0, 0, 0, 0, 0, 0);
        y.back(0);
        dueAudit("behind back", y, 0, 0, 1, 1, 0, 1);
    }

    private static void dueEntry(String text, int buyer, int seller) {
        TradeHall x = told(text);
        due("entry(false, 0) of " + text, x.entry(false, 0), buyer);
        due("entry(true, 0) of " + text, x.entry(true, 0), seller);
    }

    private static void entry() {
        promise = 30;
        dueEntry("", -2, -2);
        // the least and the greatest values
        dueEntry("seller 0 0", 0, -2);
        dueEntry("seller 0 9999", 9999, -2);
        dueEntry("seller 0 9999;fee 1", -2, -2);
        dueEntry("seller 0 9499;fee 500", 9999, -2);
        dueEntry("seller 0 9500;fee 500", -2, -2);
        dueEntry("buyer 0 0", -2, 0);
        dueEntry("buyer 0 9999", -2, 9999);
        dueEntry("buyer 0 5;fee 5", -2, 0);
        // 5 less 6 is below 0: none, and not NONE
        dueEntry("buyer 0 5;fee 6", -2, -2);
        dueEntry("buyer 0 0;fee 500", -2, -2);
        // the LAST BID must still have the next ASK, the LAST ASK the next BID
        dueEntry("buyer 0 9;seller 0 3 9", 9, -2);
        dueEntry("buyer 0 9;seller 0 3 10", -2, -2);
        dueEntry("buyer 0 9 3;seller 0 3", -2, 3);
        dueEntry("buyer 0 9 2;seller 0 3", -2, -2);
        dueEntry("buyer 0 9 5;seller 0 3 6;fee 1", 7, 4);
        dueEntry("buyer 0 9 5;seller 0 3 9;fee 1", -2, 4);
        dueEntry("buyer 0 9 5;seller 0 5 6;fee 1", 7, -2);
        // one more of the TRADES, whatever is DONE
        dueEntry("buyer 0 4;seller 0 6", 6, 4);
        dueEntry("buyer 0 9;seller 0 3", -2, -2);
        dueEntry("buyer 1 9;seller 2 3", -2, -2);
    }

    private static void letter() {
        promise = 31;
        String[] texts = {"", "buyer 0", "seller 3", "fee 1", "fee 500", "law middle", "law less",
            "law apart", "fee 10;law less", "buyer 0 0", "seller 1 0 0 0 0", "buyer 2 9 8 7 6",
            "buyer 0 1000 100 10 1;seller 0 9 99 999 9999;buyer 0 3000 2002 1001 909;fee 100"};
        for (String text : texts) {
            TradeHall x = told(text);
            dueText("letter", x, text);
            due("how many", x.letter(-1), text.length());
            due("behind the last", x.letter(text.length()), -2);
            due("far behind", x.letter(MAX), -2);
            due("ahead of how many", x.letter(-2), -1);
        }
        dueText("fee 0 and cut are not told", told("law cut;fee 0;buyer 0 5"), "buyer 0 5");
        dueText("zeros ahead are not told", told("fee 007;buyer 000 0090"), "buyer 0 90;fee 7");
        // more than a TAPE holds
        TradeHall x = greatest();
        x.fee(500);
        x.law(3);
        String text = "buyer 3 9999 9999 9999 9999;".repeat(10) + "seller 3 0 0 0 0;".repeat(10)
                + "fee 500;law apart";
        dueText("the greatest", x, text);
        x.leave(0);
        dueText("without its units", x, "buyer 3" + text.substring(27));
    }

    private static void match() {
        promise = 32;
        TradeHall x = told("seller 0 7;buyer 0 9 8;seller 0 1;buyer 0 9 2;law middle");
        // BIDS 9 (1), 9 (3), 8 (1), 2; ASKS 1 (2), 7 (0)
        int[][] want = {{1, 0, 2, 0}, {3, 0, 0, 0}};
        for (int k = 0; k < 2; k++) {
            for (int what = 0; what < 4; what++) {
                due("match(0, " + k + ", " + what + ")", x.match(0, k, what), want[k][what]);
            }
        }
        due("how many", x.match(0, -1, 0), 2);
        due("behind the last", x.match(0, 2, 0), -1);
        due("what 1 of how many", x.match(0, -1, 1), -1);
        // units of one meet later units of the other
        TradeHall y = told("buyer 2 9 8;seller 2 1;seller 2 0 5;law middle");
        due("the second buyer's unit", y.match(2, 1, 1), 1);
        due("the second seller's unit", y.match(2, 1, 3), 0);
        due("the first seller", y.match(2, 0, 2), 2);
        y.law(2);
        due("the dropped one is not done", y.match(2, 1, 1), -1);
        due("how many by LESS", y.match(2, -1, 0), 1);
        TradeHall none = told("buyer 0 9;seller 0 5");
        due("how many of none", none.match(0, -1, 0), 0);
        due("the first of none", none.match(0, 0, 0), -1);
        TradeHall all = greatest();
        all.law(1);
        due("the last of 40: the buyer", all.match(3, 39, 0), 9);
        due("the last of 40: its unit", all.match(3, 39, 1), 3);
        due("the last of 40: the seller", all.match(3, 39, 2), 19);
        due("the last of 40: its unit", all.match(3, 39, 3), 3);
        due("a 41st", all.match(3, 40, 3), -1);
    }

    private static void dueMerged(String text, int trades, int worth, int more) {
        TradeHall x = told(text);
        int[] want = {trades, worth, more};
        for (int what = 0; what < 3; what++) {
            due("merged(0, 3, " + what + ") of " + text, x.merged(0, 3, what), want[what]);
            due("merged(3, 0, " + what + ") of " + text, x.merged(3, 0, what), want[what]);
        }
    }

    private static void merged() {
        promise = 33;
        dueMerged("", 0, 0, 0);
        dueMerged("buyer 0 9;seller 3 5", 1, 4, 4);
        dueMerged("buyer 3 9;seller 0 5", 1, 4, 4);
        dueMerged("buyer 0 9;seller 3 5;fee 4", 1, 0, 0);
        dueMerged("buyer 0 9;seller 3 5;fee 5", 0, 0, 0);
        dueMerged("buyer 0 9;seller 0 5;buyer 3 7;seller 3 6", 2, 5, 0);
        dueMerged("buyer 0 9;seller 0 7;buyer 3 6;seller 3 4", 1, 5, 1);
        dueMerged("buyer 0 9;buyer 3 8;buyer 1 7;seller 1 1;seller 2 1", 0, 0, 0);
        TradeHall x = told("buyer 0 9");
        for (int g = 0; g < 4; g++) {
            due("of one grade", x.merged(g, g, 0), -1);
        }
    }

    private static void duePrices(String text, int least, int greatest, int count) {
        TradeHall x = told(text);
        due("prices(0, 0) of " + text, x.prices(0, 0), least);
        due("prices(0, 1) of " + text, x.prices(0, 1), greatest);
        due("prices(0, 2) of " + text, x.prices(0, 2), count);
    }

    private static void prices() {
        promise = 34;
        // without TRADES -2 of all three
        duePrices("", -2, -2, -2);
        duePrices("buyer 0 5;seller 0 6", -2, -2, -2);
        due("another what, without TRADES: NONE", told("").prices(0, 3), -1);
        // without next ones, with either, with both
        duePrices("buyer 0 9;seller 0 3", 3, 9, 7);
        duePrices("buyer 0 9 5;seller 0 3", 5, 9, 5);
        duePrices("buyer 0 9;seller 0 3 7", 3, 7, 5);
        duePrices("buyer 0 9 5;seller 0 3 7", 5, 7, 3);
        duePrices("buyer 0 9 2;seller 0 3 10", 3, 9, 7);
        duePrices("buyer 0 9 3;seller 0 3 9", 3, 9, 7);
        duePrices("buyer 0 9 9;seller 0 3", 9, 9, 1);
        duePrices("buyer 0 9;seller 0 3 3", 3, 3, 1);
        duePrices("buyer 0 9 5;seller 0 3 5;fee 1", 5, 6, 2);
        duePrices("buyer 0 0;seller 0 0", 0, 0, 1);
        duePrices("buyer 0 9999;seller 0 0", 0, 9999, 10000);
        duePrices("buyer 0 9999;seller 0 0 9999;fee 500", 500, 9999, 9500);
    }

    private static void dueBar(String text, int... want) {
        TradeHall x = told(text);
        for (int t = 0; t < want.length; t++) {
            due("bar(" + t + ") of " + text, x.bar(t), want[t]);
        }
    }

    private static void bar() {
        promise = 35;
        // just within -500 to 500, and just beyond
        dueBar("buyer 0 600;seller 0 100;law middle", -500, 500);
        dueBar("buyer 0 601;seller 0 100;law middle", -500, 500);
        dueBar("buyer 0 599;seller 0 100;law middle", -499, 499);
        dueBar("buyer 0 100;seller 0 600;law middle", 500, -500);
        dueBar("buyer 0 100;seller 0 601;law middle", -1000, -1000);
        dueBar("buyer 0 5;seller 0 5;law middle", 0, 0);
        // held: it says no less than 0, no more than 9999
        dueBar("buyer 0 7;seller 0 0;law middle", -500, 7);
        dueBar("buyer 0 9999;seller 0 9990;law middle", -9, 500);
        dueBar("buyer 0 9600;seller 0 9999;fee 1;law middle", -1000, -400);
        // none is ever DONE: without units, alone, by LESS of one
        dueBar("buyer 0;seller 0;law middle", -1000, -1000);
        dueBar("buyer 0 9;law middle", -1000);
        dueBar("seller 0 9;law apart", -1000);
        dueBar("buyer 0 9;seller 0 5;law less", -1000, -1000);
        // like ones: the lesser TRADER is ahead
        dueBar("buyer 0 7;buyer 0 7;seller 0 3;law middle", 0, 1, 4);
        dueBar("seller 0 3;seller 0 3;buyer 0 7;law middle", 0, -1, -4);
        // one UNIT at least: by the first of two
        dueBar("buyer 0 9 2;seller 0 5;law middle", -4);
    }

    private static void helps() {
        promise = 36;
        TradeHall x = told("buyer 0 9;buyer 0 7;seller 0 1;law middle;buyer 1 9;buyer 0");
        // (9 + 1) / 2 = 5, without 0 (7 + 1) / 2 = 4
        due("the first away", x.helps(1, 0), 3);
        due("the second away", x.helps(0, 1), 0);
        due("the buyer away that trades", x.helps(2, 0), -1);
        due("the seller away", x.helps(0, 2), -4);
        due("one without units away", x.helps(0, 4), 0);
        due("of one without units", x.helps(4, 0), 0);
        due("like ones", x.helps(0, 0), MIN);
        due("of another grade", x.helps(0, 3), MIN);
        due("of another grade", x.helps(3, 0), MIN);
        due("alone in its grade", x.helps(3, 3), MIN);
        due("without that one", x.helps(0, 5), MIN);
        due("without it", x.helps(5, 0), MIN);
        due("all are there", x.row(0, false, -1, 0), 2);
        // WORTH 12: 0 gains 12 - 6, the seller 12; without 1 the WORTH is 7, as is what both gain
        TradeHall y = told("buyer 0 9;buyer 0 8;seller 0 2 3;law apart");
        due("the other buyer away", y.helps(0, 1), 1);
        due("the other buyer away: for the seller", y.helps(2, 1), -5);
    }

    // ---- 37 to 44 ----

    private static void winnerAndRanked() {
        promise = 37;
        // all GAIN 0: the least TRADER of the GRADE
        TradeHall x = told("buyer 1 5;buyer 2 5;seller 2 6;buyer 2");
        int[][] want = {{-2, 0, 0}, {0, 0, 0}, {1, 0, 0}, {-2, 0, 0}};
        for (int g = 0; g < 4; g++) {
            for (int what = 0; what < 3; what++) {
                due("winner(" + g + ", " + what + ")", x.winner(g, what), want[g][what]);
            }
        }
        // 4 and 4; a GAIN of 1 and one of 0
        TradeHall y = told("buyer 0;seller 0 1;buyer 0 9;law middle");
        due("of like ones the least", y.winner(0, 0), 1);
        due("gain", y.winner(0, 1), 4);
        due("above 0", y.winner(0, 2), 2);
        y.say(2, 0, 2);
        due("above 0, not 0", y.winner(0, 2), 1);
        due("the winner of 1", y.winner(0, 0), 2);
        TradeHall all = greatest();
        all.law(1);
        due("all 20 gain", all.winner(3, 2), 20);
        due("the first who gains 5000 of each unit", all.winner(3, 0), 0);
        promise = 42;
        due("how many", x.ranked(2, -1), 3);
        due("of none", x.ranked(0, -1), 0);
        due("the first of none", x.ranked(0, 0), -2);
        due("of like ones the lesser first", x.ranked(2, 0), 1);
        due("of like ones the lesser first", x.ranked(2, 1), 2);
        due("the last", x.ranked(2, 2), 3);
        due("not so many", x.ranked(2, 3), -2);
        due("not so many", x.ranked(2, MAX), -2);
        due("below NONE", x.ranked(2, -2), -1);
        due("below NONE", x.ranked(2, MIN), -1);
        due("the greatest gain first", y.ranked(0, 0), 2);
        due("then of like ones the lesser", y.ranked(0, 1), 0);
        due("then the other", y.ranked(0, 2), 1);
        due("how many of 20", all.ranked(3, -1), 20);
        // buyers gain 5000 of each unit, sellers 4999
        for (int k = 0; k < 20; k++) {
            due("of 20 the " + k, all.ranked(3, k), k);
        }
        due("a 21st", all.ranked(3, 20), -2);
    }

    private static void dueDemand(TradeHall x, int price, int bids, int asks) {
        due("demand(0, " + price + ", 0)", x.demand(0, price, 0), bids);
        due("demand(0, " + price + ", 1)", x.demand(0, price, 1), asks);
        due("demand(0, " + price + ", 2)", x.demand(0, price, 2), Math.min(bids, asks));
    }

    private static void dueLively(String text, int least, int greatest, int many) {
        TradeHall x = told(text);
        due("lively(0, 0) of " + text, x.lively(0, 0), least);
        due("lively(0, 1) of " + text, x.lively(0, 1), greatest);
        due("lively(0, 2) of " + text, x.lively(0, 2), many);
    }

    private static void demandAndLively() {
        promise = 38;
        TradeHall x = told("buyer 0 9999 5 0;seller 0 0 5 9999;fee 500;buyer 1 7");
        dueDemand(x, 0, 3, 0);
        dueDemand(x, 1, 2, 0);
        dueDemand(x, 5, 2, 0);
        dueDemand(x, 6, 1, 0);
        dueDemand(x, 499, 1, 0);
        dueDemand(x, 500, 1, 1);
        dueDemand(x, 504, 1, 1);
        dueDemand(x, 505, 1, 2);
        dueDemand(x, 9999, 1, 2);
        dueDemand(x, 10000, 0, 2);
        dueDemand(x, 10498, 0, 2);
        dueDemand(x, 10499, 0, 3);
        promise = 39;
        // without TRADES every price is as lively, with none
        dueLively("", 0, 10499, 0);
        dueLively("buyer 0 9", 0, 10499, 0);
        dueLively("buyer 0 5;seller 0 6", 0, 10499, 0);
        dueLively("buyer 0 6;seller 0 6", 6, 6, 1);
        dueLively("buyer 0 6;seller 0 5;fee 1", 6, 6, 1);
        dueLively("buyer 0 0;seller 0 0", 0, 0, 1);
        dueLively("buyer 0 9999;seller 0 0", 0, 9999, 1);
        dueLively("buyer 0 9999;seller 0 0;fee 500", 500, 9999, 1);
        // the LAST ones bound it, not the next ones
        dueLively("buyer 0 9 8 7;seller 0 1 2 8", 2, 8, 2);
        dueLively("buyer 0 9 8 8;seller 0 1 2", 2, 8, 2);
    }

    private static void duePact(String text, int trader, int other, int... want) {
        TradeHall x = told(text);
        for (int what = 0; what < 3; what++) {
            due("pact(" + trader + ", " + other + ", " + what + ") of " + text,
                    x.pact(trader, other, what), want[what]);
            due("pact(" + other + ", " + trader + ", " + what + ") of " + text,
                    x.pact(other, trader, what), want[what]);
        }
    }

    private static void pact() {
        promise = 40;
        // down to -100, and no further: the price is 225 by -100 and 51, by -99 and -100 and 50
        duePact("buyer 0 500;buyer 0 450;seller 0 51;law middle", 0, 1, 275, -100, 50);
        duePact("buyer 0 500;buyer 0 450;seller 0 50;law middle", 0, 1, 275, -99, 50);
        // up to 100, and no further
        duePact("buyer 0 600;seller 0 50;seller 0 100;law middle", 1, 2, 325, 100, 50);
        duePact("buyer 0 601;seller 0 50;seller 0 100;law middle", 1, 2, 324 + 1, 99, 50);
        // 0 too, where nothing is better
        duePact("buyer 0 9;seller 0 5;law apart", 0, 1, 8, 0, 0);
        duePact("buyer 0 9;seller 0 5;law middle", 0, 1, 4, 0, 0);
        duePact("buyer 0;buyer 0;law middle", 0, 1, 0, 0, 0);
        // one without units: as the other alone
        duePact("buyer 0 9;seller 0 4;buyer 0;law middle", 0, 2, 5, -4, 2);
        TradeHall x = told("buyer 0 9;seller 1 5;buyer 0 8");
        for (int what = 0; what < 3; what++) {
            due("like ones", x.pact(0, 0, what), MIN);
            due("unlike grades", x.pact(0, 1, what), MIN);
            due("without the other", x.pact(0, 3, what), MIN);
            due("without it", x.pact(-1, 0, what), MIN);
        }
        due("no pact stays", x.trader(0, 10), 9);
    }

    private static void dueMoved(String text, int trader, int grade, int gain) {
        TradeHall x = told(text);
        due("moved(" + trader + ", 0) of " + text, x.moved(trader, 0), grade);
        due("moved(" + trader + ", 1) of " + text, x.moved(trader, 1), gain);
        due("its grade stays", x.trader(trader, 1), told(text).trader(trader, 1));
    }

    private static void moved() {
        promise = 41;
        // nowhere a gain: its own
        dueMoved("buyer 2 9", 0, 2, 0);
        dueMoved("buyer 3;seller 1 5;law middle", 0, 3, 0);
        // as good as its own: its own
        dueMoved("buyer 2 9;seller 2 5;seller 0 5;law middle", 0, 2, 2);
        // better than its own, as good as one another: the least
        dueMoved("buyer 2 9;seller 2 5;seller 3 3;seller 1 3;law middle", 0, 1, 3);
        dueMoved("buyer 0 9;seller 3 3;seller 2 3;law middle", 0, 2, 3);
        dueMoved("buyer 0 9;seller 3 2;seller 2 3;law middle", 0, 3, 4);
        // all else as it is: its own seller does not come along
        dueMoved("buyer 1 9;seller 1 8;buyer 0 7;seller 0 1;law middle", 0, 0, 4);
        // what it gains where it is, is not what a lie would gain: (9 + 5) / 2
        dueMoved("buyer 0 9;seller 0 5;law middle", 0, 0, 2);
        dueMoved("seller 0 5;buyer 0 8;law middle", 0, 0, 1);
        dueMoved("buyer 0 9;seller 3 2;seller 3 3;law apart", 0, 3, 7);
    }

    private static void skim() {
        promise = 43;
        TradeHall x = told("buyer 0 9;seller 0 1;buyer 0 4;seller 0 3;buyer 1 9;seller 1 8");
        x.law(1);
        // BIDS 9 4, ASKS 1 3: the price is 3; GAINS 6, 2, 1, 0
        int[][] want = {{2, 9}, {1, 3}, {1, 1}, {0, 0}, {0, 0}, {0, 0}};
        for (int n = 0; n < 6; n++) {
            due("skim(0, " + n + ", 0)", x.skim(0, n, 0), want[n][0]);
            due("skim(0, " + n + ", 1)", x.skim(0, n, 1), want[n][1]);
        }
        due("all, if it has no more", x.skim(0, 20, 0), 0);
        due("of another grade none is away", x.skim(1, 0, 1), 1);
        due("a grade without traders", x.skim(3, 20, 0), 0);
        due("all are there", x.count(0), 6);
        due("all are there", x.market(0, 0), 2);
        TradeHall all = greatest();
        all.law(1);
        due("the first 9", all.skim(3, 9, 0), 4);
        due("the first 10", all.skim(3, 10, 0), 0);
        due("all 20", all.skim(3, 20, 1), 0);
        due("none", all.skim(3, 0, 1), 399960);
    }

    private static void count() {
        promise = 44;
        TradeHall x = greatest();
        x.fee(500);
        x.law(3);
        x.keep(0);
        x.keep(1);
        put(x, "x".repeat(400));
        int[] want = {20, 80, 500, 3, 10, 400, 3, 8, 40 * 9499};
        for (int what = 0; what <= 8; what++) {
            due("count(" + what + ") of the greatest", x.count(what), want[what]);
        }
        TradeHall y = new TradeHall();
        for (int t = 0; t < 8; t++) {
            y.come(t >= 4, t % 4);
            y.add(t, 5);
        }
        due("grades with trades, as bits", y.count(7), 15);
        due("worth", y.count(8), 0);
        y.say(0, 0, 4);
        y.say(3, 0, 9);
        due("grades with trades, as bits", y.count(7), 14);
        due("worth", y.count(8), 4);
        y.keep(1);
        due("shelves, as bits", y.count(6), 2);
        y.keep(0);
        due("shelves, as bits", y.count(6), 3);
        due("acts", y.count(4), 10);
        y.back(1);
        due("acts behind back", y.count(4), 0);
        due("no what of these", y.count(9), -1);
    }
}
