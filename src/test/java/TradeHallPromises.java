/**
 * For each promise of the document answers that were worked out by hand: ordinary inputs, the
 * edges that the document names, and wrong inputs.
 */
public final class TradeHallPromises extends Checks {
    /**
     * BIDS 90 70 (of 0) 60 20 (of 1), ASKS 10 40 (of 2) 55 80 (of 3): three TRADES, WORTH 115.
     * By CUT the middle of 20 and 80 is below the LAST ASK, so it does as LESS.
     */
    private static final String FAIR =
            "buyer 0 90 70;buyer 0 60 20;seller 0 10 40;seller 0 55 80";

    public static void main(String[] args) {
        actsAndState();
        bookAnswers();
        whatIfAnswers();
        rankAnswers();
        finish();
    }

    private static void actsAndState() {
        newObject();
        feed();
        end();
        tell();
        faults();
        faultsOfOnePlace();
        come();
        add();
        say();
        leave();
        fee();
        law();
        close();
        closeApart();
        undo();
        keep();
        back();
    }

    private static void bookAnswers() {
        trader();
        row();
        market();
        marketByCut();
        deal();
        lie();
        tempted();
        temptedNearZero();
        missed();
        open();
        ties();
    }

    private static void whatIfAnswers() {
        under();
        feeing();
        bestFee();
        served();
        share();
        audit();
        entry();
        letter();
        match();
        merged();
        prices();
        bar();
        helps();
    }

    private static void rankAnswers() {
        winner();
        demand();
        lively();
        pact();
        moved();
        ranked();
        skim();
        count();
    }

    // ---- 1 to 14 ----

    private static void newObject() {
        promise = 1;
        TradeHall x = new TradeHall();
        for (int what = 0; what <= 8; what++) {
            due("count " + what, x.count(what), 0);
        }
        due("none", TradeHall.NONE, -1);
        due("trader(0, 0)", x.trader(0, 0), MIN);
        due("undo", x.undo(), -1);
    }

    private static void feed() {
        promise = 2;
        TradeHall x = new TradeHall();
        for (int i = 1; i <= 20; i++) {
            due("feed", x.feed(-1, i, MIN, MAX, 0), 20 * i);
        }
        due("feed beyond 400", x.feed(0, 0, 0, 0, 0), -1);
        due("count(5)", x.count(5), 400);
        x.end(381);
        due("feed to 401", x.feed(0, 0, 0, 0, 0), -1);
        due("count(5)", x.count(5), 381);
        x.end(380);
        due("feed to 400", x.feed(0, 0, 0, 0, 0), 400);
        x.end(0);
        // b, u, y, e; r, blank, 2, blank; 7 and blanks
        due("feed", x.feed(0x62757965, 0x72203220, 0x37202020, 0x20202020, 0x20202020), 20);
        due("tell", x.tell(), 1);
        dueText("the highest byte first", x, "buyer 2 7");
        // the highest byte is no number's sign
        x.feed(0xe4000000, 0, 0, 0, 0);
        due("tell of byte 228", x.tell(), -3);
    }

    private static void end() {
        promise = 3;
        TradeHall x = new TradeHall();
        due("end(0)", x.end(0), 0);
        due("end(1) of none", x.end(1), -1);
        x.feed(0, 0, 0, 0, 0);
        due("end(-1)", x.end(-1), -1);
        due("end(MIN)", x.end(MIN), -1);
        due("end(21)", x.end(21), -1);
        due("end(MAX)", x.end(MAX), -1);
        due("count(5)", x.count(5), 20);
        due("end(20)", x.end(20), 20);
        due("end(7)", x.end(7), 7);
        due("end(8)", x.end(8), -1);
        due("count(5)", x.count(5), 7);
    }

    private static void tell() {
        promise = 4;
        TradeHall x = told(FAIR);
        due("traders", x.count(0), 4);
        due("tape", x.count(5), 0);
        x.keep(1);
        x.law(1);
        x.fee(3);
        x.close(0);
        put(x, "  law  apart ; seller 3;fee 0500 ;buyer0 9999 0 0;  ");
        x.end(x.count(5) - 3);
        due("tell", x.tell(), 2);
        dueText("tell", x, "seller 3;buyer 0 9999 0 0;fee 500;law apart");
        due("undo", x.undo(), -1);
        due("purses", x.audit(1), 0);
        due("chest", x.audit(0), 0);
        due("trades closed", x.audit(2), 0);
        due("takings", x.audit(4), 0);
        due("closes", x.audit(5), 0);
        due("bought", x.trader(0, 5), 0);
        due("shelves", x.count(6), 2);
        due("tell of nothing", x.tell(), 0);
        due("traders", x.count(0), 0);
        due("fee", x.count(2), 0);
        due("law", x.count(3), 0);
        put(x, "     ");
        due("tell of blanks", x.tell(), 0);
        put(x, "seller 0 1 1 2 9999;buyer 0 9999 2 1 1;law cut;fee 0");
        due("tell", x.tell(), 2);
        dueText("tell", x, "seller 0 1 1 2 9999;buyer 0 9999 2 1 1");
        x.fee(5);
        put(x, "buyer 9");
        due("tell of a fault", x.tell(), -2 - 8 * 6 - 2);
        due("undo after a fault", x.undo(), 0);
    }

    private static void faults() {
        promise = 4;
        dueFault("x", 0, 1);
        dueFault(";", 0, 1);
        dueFault("5", 0, 1);
        dueFault("\u00ff", 0, 1);
        dueFault("  \0", 2, 1);
        dueFault("Buyer 0", 0, 1);
        dueFault("buyers 0", 0, 1);
        dueFault("buye 0", 0, 1);
        dueFault("xuyer 0", 0, 1);
        dueFault("buyerz 0", 0, 1);
        dueFault("buyera 0", 0, 1);
        dueFault("buyer{0", 5, 1);
        dueFault("buyer`0", 5, 1);
        dueFault("buyer/0", 5, 1);
        dueFault("buyer:0", 5, 1);
        dueFault("buyer", 5, 1);
        dueFault("buyer  ", 7, 1);
        dueFault("buyer x", 6, 1);
        dueFault("buyer ;", 6, 1);
        dueFault("buyer 4", 6, 2);
        dueFault("buyer 00000000004", 6, 2);
        dueFault("buyer 99999999999999999999999", 6, 2);
        dueFault("buyer 0 5-", 9, 1);
        dueFault("buyer 0 5 seller 0 5", 10, 1);
        dueFault("buyer 0 5;", 10, 1);
        dueFault("buyer 0 5; ;", 11, 1);
        dueFault("buyer 0 10000", 8, 2);
        dueFault("buyer 0 5 6", 10, 2);
        dueFault("seller 0 5 5 4", 13, 2);
        dueFault("buyer 0 5 4 4 3 2", 16, 3);
        dueFault("fee", 3, 1);
        dueFault("fee 501", 4, 2);
        dueFault("fee -1", 4, 1);
        dueFault("fee 5 5", 6, 1);
        dueFault("fee 5;fee 5", 6, 3);
        dueFault("fee 5; fee x", 7, 3);
        dueFault("law", 3, 1);
        dueFault("law  cuts", 5, 1);
        dueFault("law 1", 4, 1);
        dueFault("law;", 3, 1);
        dueFault("lawcut", 0, 1);
        dueFault("law cut less", 8, 1);
        dueFault("law cut;law cut", 8, 3);
    }

    private static void faultsOfOnePlace() {
        promise = 4;
        // a 5th NUMBER that is not as told either: the lesser one
        dueFault("seller 0 1 1 1 1 0", 17, 2);
        dueFault("seller 0 1 1 1 1 10000", 17, 2);
        dueFault("seller 0 1 1 1 1 1", 17, 3);
        // the first place counts, not the worst
        dueFault("fee 501;fee", 4, 2);
        dueFault("buyer 4 10000", 6, 2);
        String twenty = "buyer 0" + ";seller 1".repeat(19);
        due("twenty", told(twenty + ";fee 1").count(0), 20);
        dueFault(twenty + ";buyer", twenty.length() + 1, 3);
        dueFault(twenty + "; seller x", twenty.length() + 2, 3);
        dueFault(twenty + ";sellers", twenty.length() + 1, 1);
        TradeHall x = new TradeHall();
        put(x, "buyer" + " ".repeat(395));
        due("the text ends behind byte 400", x.tell(), -2 - 8 * 400 - 1);
    }

    private static void come() {
        promise = 5;
        TradeHall x = new TradeHall();
        due("come(true, -1)", x.come(true, -1), -1);
        due("come(false, 4)", x.come(false, 4), -1);
        due("come(false, MIN)", x.come(false, MIN), -1);
        due("undo", x.undo(), -1);
        for (int i = 0; i < 20; i++) {
            due("come", x.come(i % 2 == 1, i % 4), i);
            due("units", x.trader(i, 2), 0);
        }
        due("come as 21st", x.come(false, 0), -2);
        due("come as 21st without a grade", x.come(false, 4), -1);
        due("traders", x.count(0), 20);
        due("trader(7, 0)", x.trader(7, 0), 1);
        due("trader(6, 1)", x.trader(6, 1), 2);
        x.undo();
        due("traders", x.count(0), 19);
        TradeHall y = told("buyer 0 5");
        y.come(true, 0);
        y.add(1, 4);
        y.undo();
        y.undo();
        due("come again", y.come(false, 2), 1);
        dueText("come again", y, "buyer 0 5;buyer 2");
    }

    private static void add() {
        promise = 6;
        TradeHall x = told("buyer 0;seller 0");
        due("add(-1, 5)", x.add(-1, 5), -1);
        due("add(2, 5)", x.add(2, 5), -1);
        due("add(0, -1)", x.add(0, -1), -1);
        due("add(0, 10000)", x.add(0, 10000), -1);
        due("undo", x.undo(), -1);
        due("add(0, 9999)", x.add(0, 9999), 1);
        due("add(0, 9999)", x.add(0, 9999), 2);
        due("add(0, 5)", x.add(0, 5), 3);
        due("add(0, 6)", x.add(0, 6), -3);
        due("add(0, 0)", x.add(0, 0), 4);
        due("add(0, 0) as 5th", x.add(0, 0), -2);
        due("add(0, 9) as 5th, above", x.add(0, 9), -2);
        due("add(0, -1) as 5th", x.add(0, -1), -1);
        due("add(1, 0)", x.add(1, 0), 1);
        due("add(1, 7)", x.add(1, 7), 2);
        due("add(1, 6)", x.add(1, 6), -3);
        due("add(1, 7)", x.add(1, 7), 3);
        dueText("add", x, "buyer 0 9999 9999 5 0;seller 0 0 7 7");
        due("acts", x.count(4), 7);
    }

    private static void say() {
        promise = 7;
        TradeHall x = told("buyer 0 9 5 1;seller 0 1 5 9;buyer 0");
        due("say(3, 0, 1)", x.say(3, 0, 1), -1);
        due("say(-1, 0, 1)", x.say(-1, 0, 1), -1);
        due("say(0, 3, 1)", x.say(0, 3, 1), -1);
        due("say(0, -1, 1)", x.say(0, -1, 1), -1);
        due("say(2, 0, 1)", x.say(2, 0, 1), -1);
        due("say(0, MAX, 1)", x.say(0, MAX, 1), -1);
        due("say(0, 0, 10000)", x.say(0, 0, 10000), -1);
        due("say(0, 0, -1)", x.say(0, 0, -1), -1);
        due("say(0, 1, 5)", x.say(0, 1, 5), -2);
        due("say(0, 1, 10)", x.say(0, 1, 10), -3);
        due("say(0, 1, 0)", x.say(0, 1, 0), -3);
        due("say(0, 0, 4)", x.say(0, 0, 4), -3);
        due("say(0, 2, 6)", x.say(0, 2, 6), -3);
        due("say(1, 1, 0)", x.say(1, 1, 0), -3);
        due("say(1, 1, 10)", x.say(1, 1, 10), -3);
        due("undo", x.undo(), -1);
        due("say(0, 1, 9)", x.say(0, 1, 9), 5);
        due("say(0, 1, 1)", x.say(0, 1, 1), 9);
        due("say(0, 0, 9999)", x.say(0, 0, 9999), 9);
        due("say(1, 1, 9)", x.say(1, 1, 9), 5);
        due("say(1, 1, 1)", x.say(1, 1, 1), 9);
        due("say(1, 0, 0)", x.say(1, 0, 0), 1);
        dueText("say", x, "buyer 0 9999 1 1;seller 0 0 1 9;buyer 0");
    }

    private static void leave() {
        promise = 8;
        TradeHall x = told("buyer 0 9 5 1;seller 0 1 5 9 9;buyer 0");
        due("leave(3)", x.leave(3), -1);
        due("leave(-1)", x.leave(-1), -1);
        due("leave(2)", x.leave(2), -1);
        due("leave(1)", x.leave(1), 4);
        due("leave(1)", x.leave(1), -1);
        due("leave(0)", x.leave(0), 3);
        due("traders", x.count(0), 3);
        dueText("leave", x, "buyer 0;seller 0;buyer 0");
        due("undo", x.undo(), 1);
        dueText("undo", x, "buyer 0 9 5 1;seller 0;buyer 0");
    }

    private static void fee() {
        promise = 9;
        TradeHall x = told("buyer 0 9;seller 0 5");
        due("fee(-1)", x.fee(-1), -1);
        due("fee(501)", x.fee(501), -1);
        due("fee(0)", x.fee(0), -2);
        due("undo", x.undo(), -1);
        due("fee(500)", x.fee(500), 0);
        due("fee(500)", x.fee(500), -2);
        due("trades", x.market(0, 0), 0);
        due("fee(4)", x.fee(4), 500);
        due("trades", x.market(0, 0), 1);
        due("undo", x.undo(), 1);
        due("count(2)", x.count(2), 500);
    }

    private static void law() {
        promise = 10;
        TradeHall x = new TradeHall();
        due("law(-1)", x.law(-1), -1);
        due("law(4)", x.law(4), -1);
        due("law(0)", x.law(0), -2);
        due("undo", x.undo(), -1);
        due("law(3)", x.law(3), 0);
        due("law(3)", x.law(3), -2);
        due("law(1)", x.law(1), 3);
        due("law(2)", x.law(2), 1);
        due("undo", x.undo(), 2);
        due("count(3)", x.count(3), 1);
    }

    private static void close() {
        promise = 11;
        TradeHall x = told(FAIR + ";buyer 1 5 4;seller 1 4;fee 1");
        due("close(4)", x.close(4), -1);
        due("close(-1)", x.close(-1), -1);
        due("close(2)", x.close(2), -2);
        due("close(1)", x.close(1), -2);
        due("undo", x.undo(), -1);
        // LESS: buyers pay 60, sellers have 56 less 1
        due("close(0)", x.close(0), 2);
        dueText("close", x,
                "buyer 0;buyer 0 60 20;seller 0;seller 0 55 80;buyer 1 5 4;seller 1 4;fee 1");
        due("purse 0", x.trader(0, 3), -120);
        due("purse 1", x.trader(1, 3), 0);
        due("purse 2", x.trader(2, 3), 110);
        due("bought 0", x.trader(0, 5), 2);
        due("sold 2", x.trader(2, 5), 2);
        due("chest", x.audit(0), 10);
        due("close(0)", x.close(0), -2);
        x.law(1);
        // (60 + 56) / 2 = 58
        due("close(0)", x.close(0), 1);
        due("purse 1", x.trader(1, 3), -58);
        due("purse 3", x.trader(3, 3), 57);
        due("close(1)", x.close(1), 1);
        dueText("close", x, "buyer 0;buyer 0 20;seller 0;seller 0 80;"
                + "buyer 1 4;seller 1;fee 1;law middle");
        due("chest", x.audit(0), 12);
    }

    private static void closeApart() {
        promise = 11;
        TradeHall x = told(FAIR + ";law apart");
        due("close(0)", x.close(0), 3);
        due("purse 0", x.trader(0, 3), -95);
        due("purse 1", x.trader(1, 3), -55);
        due("purse 2", x.trader(2, 3), 130);
        due("purse 3", x.trader(3, 3), 60);
        due("chest", x.audit(0), -40);
        due("greatest takings", x.audit(4), -40);
        dueText("close", x, "buyer 0;buyer 0 20;seller 0;seller 0 80;law apart");
    }

    private static void undo() {
        promise = 12;
        TradeHall x = told(FAIR);
        due("undo", x.undo(), -1);
        x.law(1);
        x.close(0);
        due("undo", x.undo(), 1);
        dueText("undo", x, FAIR + ";law middle");
        due("purse", x.trader(0, 3), 0);
        due("bought", x.trader(0, 5), 0);
        due("closes", x.audit(5), 0);
        due("greatest takings", x.audit(4), 0);
        due("undo", x.undo(), 0);
        dueText("undo", x, FAIR);
        due("undo", x.undo(), -1);
        for (int pence = 1; pence <= 12; pence++) {
            x.fee(pence);
            due("acts", x.count(4), Math.min(pence, 10));
        }
        x.keep(0);
        x.fee(12);
        for (int left = 9; left >= 0; left--) {
            due("undo", x.undo(), left);
            due("fee", x.count(2), left + 2);
        }
        due("undo", x.undo(), -1);
        due("fee", x.count(2), 2);
        due("shelves", x.count(6), 1);
    }

    private static void keep() {
        promise = 13;
        TradeHall x = told("buyer 0 9;seller 0 5;law middle");
        due("keep(2)", x.keep(2), -1);
        due("keep(-1)", x.keep(-1), -1);
        due("shelves", x.count(6), 0);
        due("keep(1)", x.keep(1), 2);
        due("shelves", x.count(6), 2);
        x.close(0);
        x.come(false, 3);
        due("keep(0)", x.keep(0), 3);
        due("shelves", x.count(6), 3);
        due("acts", x.count(4), 2);
        x.leave(0);
        due("keep(1) again", x.keep(1), 3);
        due("back(1)", x.back(1), 3);
        due("purse", x.trader(0, 3), -7);
    }

    private static void back() {
        promise = 14;
        TradeHall x = told("buyer 0 9;seller 0 5;law middle;fee 1");
        due("back(2)", x.back(2), -1);
        due("back(-1)", x.back(-1), -1);
        due("back(0)", x.back(0), -2);
        x.keep(0);
        due("back(1)", x.back(1), -2);
        x.close(0);
        x.keep(1);
        x.law(3);
        put(x, "buyer 2");
        due("acts", x.count(4), 2);
        due("back(0)", x.back(0), 2);
        dueText("back", x, "buyer 0 9;seller 0 5;fee 1;law middle");
        due("closes", x.audit(5), 0);
        due("acts", x.count(4), 0);
        due("undo", x.undo(), -1);
        due("tape", x.count(5), 7);
        due("back(1)", x.back(1), 2);
        dueText("back", x, "buyer 0;seller 0;fee 1;law middle");
        due("chest", x.audit(0), 1);
        due("greatest takings", x.audit(4), 1);
        due("sold", x.trader(1, 5), 1);
        x.come(true, 0);
        due("back(1) again", x.back(1), 2);
    }

    // ---- 15 to 23 ----

    private static void trader() {
        promise = 15;
        TradeHall x = told("seller 3 1 2 3 4;" + FAIR + ";buyer 2");
        due("trader(0, 0)", x.trader(0, 0), 1);
        due("trader(1, 0)", x.trader(1, 0), 0);
        due("trader(0, 1)", x.trader(0, 1), 3);
        due("trader(5, 1)", x.trader(5, 1), 2);
        due("trader(0, 2)", x.trader(0, 2), 4);
        due("trader(5, 2)", x.trader(5, 2), 0);
        due("trader(1, 4)", x.trader(1, 4), 2);
        due("trader(2, 4)", x.trader(2, 4), 0);
        due("trader(3, 4)", x.trader(3, 4), 2);
        due("trader(0, 4)", x.trader(0, 4), 0);
        due("trader(0, 10)", x.trader(0, 10), 1);
        due("trader(0, 13)", x.trader(0, 13), 4);
        due("trader(0, 14)", x.trader(0, 14), MIN);
        due("trader(1, 11)", x.trader(1, 11), 70);
        due("trader(1, 12)", x.trader(1, 12), MIN);
        due("trader(0, 6)", x.trader(0, 6), MIN);
        due("trader(0, 9)", x.trader(0, 9), MIN);
        due("trader(0, -1)", x.trader(0, -1), MIN);
        due("trader(0, MIN)", x.trader(0, MIN), MIN);
        due("trader(0, MAX)", x.trader(0, MAX), MIN);
        due("trader(6, 0)", x.trader(6, 0), MIN);
        due("trader(-1, 0)", x.trader(-1, 0), MIN);
        x.close(0);
        due("trader(1, 3)", x.trader(1, 3), -120);
        due("trader(3, 3)", x.trader(3, 3), 110);
        due("trader(1, 5)", x.trader(1, 5), 2);
        due("trader(0, 5)", x.trader(0, 5), 0);
    }

    private static void row() {
        promise = 16;
        TradeHall x = told("seller 1 3 7;buyer 1 8 5;buyer 1 8 8;seller 1 3;fee 2;buyer 0 9");
        int[] bidTraders = {1, 2, 2, 1};
        int[] bidUnits = {0, 0, 1, 1};
        int[] bids = {8, 8, 8, 5};
        due("bids", x.row(1, false, -1, 0), 4);
        for (int k = 0; k < 4; k++) {
            due("bid " + k + " trader", x.row(1, false, k, 0), bidTraders[k]);
            due("bid " + k + " unit", x.row(1, false, k, 1), bidUnits[k]);
            due("bid " + k, x.row(1, false, k, 2), bids[k]);
        }
        int[] askTraders = {0, 3, 0};
        int[] askUnits = {0, 0, 1};
        int[] asks = {5, 5, 9};
        due("asks", x.row(1, true, -1, 0), 3);
        for (int k = 0; k < 3; k++) {
            due("ask " + k + " trader", x.row(1, true, k, 0), askTraders[k]);
            due("ask " + k + " unit", x.row(1, true, k, 1), askUnits[k]);
            due("ask " + k, x.row(1, true, k, 2), asks[k]);
        }
        due("row(1, false, 4, 0)", x.row(1, false, 4, 0), -1);
        due("row(1, true, 3, 2)", x.row(1, true, 3, 2), -1);
        due("row(1, true, -1, 1)", x.row(1, true, -1, 1), -1);
        due("row(1, true, -1, 2)", x.row(1, true, -1, 2), -1);
        due("row(1, true, -2, 0)", x.row(1, true, -2, 0), -1);
        due("row(1, true, 0, 3)", x.row(1, true, 0, 3), -1);
        due("row(1, true, 0, -1)", x.row(1, true, 0, -1), -1);
        due("row(4, true, 0, 0)", x.row(4, true, 0, 0), -1);
        due("row(-1, true, -1, 0)", x.row(-1, true, -1, 0), -1);
        due("row(2, true, -1, 0)", x.row(2, true, -1, 0), 0);
        due("row(0, false, 0, 2)", x.row(0, false, 0, 2), 9);
    }

    private static void dueMarket(TradeHall x, int... want) {
        for (int what = 0; what < want.length; what++) {
            due("market(0, " + what + ") by law " + x.count(3), x.market(0, what), want[what]);
        }
    }

    private static void market() {
        promise = 17;
        TradeHall x = told(FAIR);
        dueMarket(x, 3, 115, 2, 60, 55, 10, 5, 60, 55);
        x.law(1);
        dueMarket(x, 3, 115, 3, 57, 57, 0, 0, 60, 55);
        x.law(2);
        dueMarket(x, 3, 115, 2, 60, 55, 10, 5, 60, 55);
        x.law(3);
        dueMarket(x, 3, 115, 3, -2, -2, -40, 0, 60, 55);
        // ASKS 15 45 60 85
        x.fee(5);
        dueMarket(x, 3, 100, 3, -2, -2, -10, 0, 60, 60);
        x.law(2);
        dueMarket(x, 3, 100, 2, 60, 55, 10, 0, 60, 60);
        x.law(1);
        dueMarket(x, 3, 100, 3, 60, 55, 15, 0, 60, 60);
        due("market(1, 1)", x.market(1, 1), 0);
        due("market(1, 3)", x.market(1, 3), -2);
        due("market(1, 4)", x.market(1, 4), -2);
        due("market(1, 7)", x.market(1, 7), -2);
        due("market(1, 8)", x.market(1, 8), -2);
        due("market(0, 9)", x.market(0, 9), MIN);
        due("market(0, -1)", x.market(0, -1), MIN);
        due("market(4, 3)", x.market(4, 3), MIN);
        due("market(-1, 0)", x.market(-1, 0), MIN);
        // one TRADE, which is dropped: none is DONE
        dueMarket(told("buyer 0 5;seller 0 5"), 1, 0, 0, -2, -2, 0, 0, 5, 5);
        dueMarket(told("buyer 0 7;seller 0 5;law less"), 1, 2, 0, -2, -2, 0, 2, 7, 5);
    }

    private static void marketByCut() {
        promise = 17;
        // next ones 8 and 13: 10 downwards, which is both LAST ones' bound
        dueMarket(told("buyer 0 10 8;seller 0 10 13"), 1, 0, 1, 10, 10, 0, 0, 10, 10);
        // above the LAST BID: (9 + 14) / 2 = 11
        dueMarket(told("buyer 0 10 9;seller 0 3 14"), 1, 7, 0, -2, -2, 0, 7, 10, 3);
        // as great as the LAST BID: (8 + 13) / 2 = 10
        dueMarket(told("buyer 0 10 8;seller 0 3 13"), 1, 7, 1, 10, 10, 0, 0, 10, 3);
        // as small as the LAST ASK: (2 + 6) / 2 = 4, with FEE 1
        dueMarket(told("buyer 0 10 2;seller 0 3 5;fee 1"), 1, 6, 1, 4, 3, 1, 0, 10, 4);
        // below the LAST ASK: (1 + 6) / 2 = 3
        dueMarket(told("buyer 0 10 1;seller 0 3 5;fee 1"), 1, 6, 0, -2, -2, 0, 6, 10, 4);
        // no next ASK, no next BID
        dueMarket(told("buyer 0 10 1;seller 0 3"), 1, 7, 0, -2, -2, 0, 7, 10, 3);
        dueMarket(told("buyer 0 10 9;seller 0 3"), 1, 7, 0, -2, -2, 0, 7, 10, 3);
        dueMarket(told("buyer 0 10;seller 0 3 11"), 1, 7, 0, -2, -2, 0, 7, 10, 3);
    }

    private static void deal() {
        promise = 18;
        TradeHall x = told(FAIR + ";buyer 1 5");
        dueDeals(x, new int[] {120, 0, 110, 0}, new int[] {40, 0, 60, 0});
        x.law(1);
        dueDeals(x, new int[] {114, 57, 114, 57}, new int[] {46, 3, 64, 2});
        x.law(3);
        dueDeals(x, new int[] {95, 55, 130, 60}, new int[] {65, 5, 80, 5});
        x.fee(5);
        // WORTH 100; without 0: 60 - 15; without 1: 75 + 25; without 2: 90 - 60;
        // without 3: 75 + 25
        dueDeals(x, new int[] {105, 60, 120, 55}, new int[] {55, 0, 70, 0});
        due("deal(4, 0)", x.deal(4, 0), 0);
        due("deal(4, 1)", x.deal(4, 1), 0);
        due("deal(5, 0)", x.deal(5, 0), MIN);
        due("deal(-1, 0)", x.deal(-1, 0), MIN);
        due("deal(0, 2)", x.deal(0, 2), MIN);
        due("deal(0, -1)", x.deal(0, -1), MIN);
    }

    private static void dueDeals(TradeHall x, int[] money, int[] gains) {
        for (int t = 0; t < money.length; t++) {
            due("deal(" + t + ", 0) by law " + x.count(3), x.deal(t, 0), money[t]);
            due("deal(" + t + ", 1) by law " + x.count(3), x.deal(t, 1), gains[t]);
        }
    }

    private static void lie() {
        promise = 19;
        TradeHall x = told(FAIR);
        due("lie(0, 0)", x.lie(0, 0), 40);
        // BIDS 90 70 70 30: the middle of 30 and 80 is the LAST ASK
        due("lie(1, 10)", x.lie(1, 10), 5);
        due("lie(1, 9)", x.lie(1, 9), 0);
        // ASKS 10 40 45 70: all at 45, where it says 55
        due("lie(3, -10)", x.lie(3, -10), -10);
        due("lie(3, -9)", x.lie(3, -9), 0);
        due("lie(0, -500)", x.lie(0, -500), 0);
        // BIDS 590 570 60 20: LESS again
        due("lie(0, 500)", x.lie(0, 500), 40);
        due("lie(0, 501)", x.lie(0, 501), MIN);
        due("lie(0, -501)", x.lie(0, -501), MIN);
        due("lie(4, 0)", x.lie(4, 0), MIN);
        due("lie(-1, 0)", x.lie(-1, 0), MIN);
        dueText("a lie", x, FAIR);
        // held to 0: the BIDS 0 0 meet the ASKS 0 0, the middle of 0 and 0
        TradeHall low = told("buyer 0 10 5;seller 0 0 0;law middle");
        due("lie(0, -500)", low.lie(0, -500), 15);
        due("lie(0, -6)", low.lie(0, -6), 15);
        // held to 9999: like ones, the earlier UNIT first
        TradeHall high = told("buyer 0 9990 9980;seller 0 9000;law middle");
        due("lie(0, 500)", high.lie(0, 500), 9990 - (9999 + 9000) / 2);
        due("lie(1, 500)", high.lie(1, 500), (9990 + 9500) / 2 - 9000);
        // like ones of another TRADER: the lesser TRADER first
        TradeHall like = told("buyer 0 10;buyer 0 9;seller 0 4;law middle");
        due("lie(1, 1)", like.lie(1, 1), 0);
        due("lie(1, 2)", like.lie(1, 2), 9 - (11 + 4) / 2);
        due("lie(0, -1)", like.lie(0, -1), 10 - (9 + 4) / 2);
        due("lie(0, -2)", like.lie(0, -2), 0);
    }

    private static void tempted() {
        promise = 20;
        TradeHall x = told(FAIR);
        due("tempted(1, 0)", x.tempted(1, 0), 5);
        due("tempted(1, 1)", x.tempted(1, 1), 10);
        due("tempted(3, 0)", x.tempted(3, 0), 0);
        due("tempted(3, 1)", x.tempted(3, 1), 0);
        TradeHall y = told("buyer 0 300;seller 0 51;buyer 0;law middle");
        // down to 100: the middle of 100 and 51 is 75, that of 101 and 51 is 76
        due("tempted(0, 0)", y.tempted(0, 0), 300 - 75);
        due("tempted(0, 1)", y.tempted(0, 1), -200);
        y.say(1, 0, 50);
        // up to 250: the middle of 300 and 250 is 275, that of 300 and 249 is 274
        due("tempted(1, 0)", y.tempted(1, 0), 275 - 50);
        due("tempted(1, 1)", y.tempted(1, 1), 200);
        due("tempted(2, 0)", y.tempted(2, 0), 0);
        due("tempted(2, 1)", y.tempted(2, 1), 0);
        // downwards: by -5 the middle of 5 and 4 is 4, as by -6
        TradeHall z = told("buyer 0 10;seller 0 4;law middle");
        due("tempted(0, 0)", z.tempted(0, 0), 6);
        due("tempted(0, 1)", z.tempted(0, 1), -5);
        z.law(3);
        for (int t = 0; t < 2; t++) {
            due("tempted by APART", z.tempted(t, 0), 6);
            due("tempted by APART", z.tempted(t, 1), 0);
        }
        due("tempted(2, 0)", z.tempted(2, 0), MIN);
        due("tempted(-1, 0)", z.tempted(-1, 0), MIN);
        due("tempted(0, 2)", z.tempted(0, 2), MIN);
        due("tempted(0, -1)", z.tempted(0, -1), MIN);
    }

    private static void dueTempted(String text, int trader, int gain, int by) {
        TradeHall x = told(text);
        due("tempted(" + trader + ", 0) of " + text, x.tempted(trader, 0), gain);
        due("tempted(" + trader + ", 1) of " + text, x.tempted(trader, 1), by);
    }

    private static void temptedNearZero() {
        promise = 20;
        dueTempted("buyer 0 6;seller 0 4;law middle", 0, 2, -1);
        dueTempted("buyer 0 5;seller 0 4;law middle", 1, 1, 1);
        // by -1 one at 7 for 9, by 1 two at 8 for 9: like gains, so that below 0
        dueTempted("seller 0 4 7;buyer 0 9 9;buyer 0 6 4;buyer 0 10 7;law middle", 1, 2, -1);
    }

    private static void missed() {
        promise = 21;
        TradeHall x = told(FAIR + ";buyer 1 9");
        due("missed(0)", x.missed(0), 65);
        due("missed(1)", x.missed(1), 5);
        due("missed(2)", x.missed(2), 80);
        due("missed(3)", x.missed(3), 5);
        due("missed(4)", x.missed(4), 0);
        due("missed(5)", x.missed(5), -1);
        due("missed(-1)", x.missed(-1), -1);
        x.fee(5);
        due("missed(0)", x.missed(0), 55);
        due("missed(2)", x.missed(2), 70);
    }

    private static void open() {
        promise = 22;
        TradeHall x = told(FAIR);
        int[] want = {1, 5, 1, 3};
        for (int what = 0; what < 4; what++) {
            due("open(0, " + what + ")", x.open(0, what), want[what]);
        }
        x.fee(5);
        int[] none = {0, 0, -2, -2};
        for (int what = 0; what < 4; what++) {
            due("open with fee " + what, x.open(0, what), none[what]);
            due("open(3, " + what + ")", x.open(3, what), none[what]);
        }
        due("open(0, 4)", x.open(0, 4), -1);
        due("open(0, -1)", x.open(0, -1), -1);
        due("open(4, 0)", x.open(4, 0), -1);
        due("open(-1, 2)", x.open(-1, 2), -1);
        // one TRADE, which is dropped: the BIDS 9 (of 1), 9 (of 2) and 4 are all above the ASK 3
        TradeHall y = told("buyer 0 4;buyer 0 9;buyer 0 9;seller 0 10;seller 0 3;law less");
        due("open(0, 0)", y.open(0, 0), 3);
        due("open(0, 1)", y.open(0, 1), 6);
        due("open(0, 2)", y.open(0, 2), 1);
        due("open(0, 3)", y.open(0, 3), 4);
        TradeHall allSold = told("buyer 0 9 8;seller 0 3;law middle");
        for (int what = 0; what < 4; what++) {
            due("open without asks " + what, allSold.open(0, what), none[what]);
        }
        TradeHall z = told("buyer 0 9;seller 0 8");
        int[] one = {1, 1, 0, 1};
        for (int what = 0; what < 4; what++) {
            due("open of the dropped one " + what, z.open(0, what), one[what]);
        }
    }

    private static void ties() {
        promise = 23;
        due("ties", told(FAIR).ties(0), 1);
        TradeHall x = told("buyer 0 5 5;buyer 0 5;seller 0 3;seller 0 3 3 3");
        due("ties(0)", x.ties(0), 4);
        due("ties(1)", x.ties(1), 1);
        due("ties(4)", x.ties(4), -1);
        due("ties(-1)", x.ties(-1), -1);
        // the 9 is taken for certain, of the four 5 two: C(4, 2)
        due("ties", told("buyer 0 9 5 5;buyer 0 5 5 1;seller 0 2 3 3").ties(0), 6);
        due("ties of asks", told("buyer 0 5;seller 0 3 3").ties(0), 2);
        due("ties of bids", told("buyer 0 5 5;seller 0 3").ties(0), 2);
        // of TRADES, whatever is DONE of them
        due("ties of the dropped ones", told("buyer 0 9 9;seller 0 2 3 3").ties(0), 2);
        // like ones beyond the LAST are not counted
        due("ties", told("buyer 0 9 4 4;seller 0 2 8 8").ties(0), 1);
        StringBuilder many = new StringBuilder("buyer 0 5 5 5 5");
        for (int i = 1; i < 20; i++) {
            many.append(i < 14 ? ";buyer 0 5 5 5 5" : ";seller 0 1 1 1 1");
        }
        // C(56, 24)
        due("ties", told(many.toString()).ties(0), choose(56, 24));
    }

    private static long choose(int n, int k) {
        java.math.BigInteger c = java.math.BigInteger.ONE;
        for (int i = 1; i <= k; i++) {
            c = c.multiply(java.math.BigInteger.valueOf(n - k + i))
                    .divide(java.math.BigInteger.valueOf(i));
        }
        return c.longValueExact();
    }

    // ---- 24 to 36 ----

    private static void under() {
        promise = 24;
        TradeHall x = told(FAIR);
        int[][] want = {{2, 10, 5}, {3, 0, 0}, {2, 10, 5}, {3, -40, 0}};
        for (int law = 0; law < 4; law++) {
            for (int what = 0; what < 3; what++) {
                due("under(0, " + law + ", " + what + ")", x.under(0, law, what), want[law][what]);
            }
        }
        due("law", x.count(3), 0);
        due("under(1, 3, 1)", x.under(1, 3, 1), 0);
        due("under(4, 0, 0)", x.under(4, 0, 0), MIN);
        due("under(-1, 0, 0)", x.under(-1, 0, 0), MIN);
        due("under(0, 4, 0)", x.under(0, 4, 0), MIN);
        due("under(0, -1, 0)", x.under(0, -1, 0), MIN);
        due("under(0, 0, 3)", x.under(0, 0, 3), MIN);
        due("under(0, 0, -1)", x.under(0, 0, -1), MIN);
    }

    private static void feeing() {
        promise = 25;
        TradeHall x = told("buyer 0 100;seller 0 40;law middle;fee 7");
        due("feeing(0, 60, 0)", x.feeing(0, 60, 0), 1);
        due("feeing(0, 61, 0)", x.feeing(0, 61, 0), 0);
        due("feeing(0, 60, 1)", x.feeing(0, 60, 1), 60);
        due("feeing(0, 61, 1)", x.feeing(0, 61, 1), 0);
        due("feeing(0, 0, 1)", x.feeing(0, 0, 1), 0);
        due("feeing(0, 7, 1)", x.feeing(0, 7, 1), 7);
        due("feeing(1, 500, 0)", x.feeing(1, 500, 0), 0);
        due("fee", x.count(2), 7);
        due("feeing of TRADES", told(FAIR).feeing(0, 0, 0), 3);
        due("feeing of TRADES", told(FAIR).feeing(0, 6, 0), 2);
        due("feeing(0, 501, 0)", x.feeing(0, 501, 0), MIN);
        due("feeing(0, -1, 0)", x.feeing(0, -1, 0), MIN);
        due("feeing(4, 0, 0)", x.feeing(4, 0, 0), MIN);
        due("feeing(0, 0, 2)", x.feeing(0, 0, 2), MIN);
        due("feeing(0, 0, -1)", x.feeing(0, 0, -1), MIN);
    }

    private static void bestFee() {
        promise = 26;
        TradeHall x = told("buyer 0 100;seller 0 40;law middle;fee 7");
        due("bestFee(0)", x.bestFee(0), 60);
        due("bestFee(1)", x.bestFee(1), 60);
        due("bestFee(2)", x.bestFee(2), -1);
        due("bestFee(-1)", x.bestFee(-1), -1);
        due("fee", x.count(2), 7);
        // 30 twice is as much as 60 once: the least
        put(x, "buyer 0 100;seller 0 40;buyer 3 90;seller 3 60;law middle");
        x.tell();
        due("bestFee(0)", x.bestFee(0), 30);
        due("bestFee(1)", x.bestFee(1), 60);
        put(x, "buyer 0 5;seller 0 4;law middle");
        x.tell();
        due("bestFee(0)", x.bestFee(0), 1);
        // by LESS 8 less 2, as long as both trade
        put(x, "buyer 0 9 8;seller 0 1 2;law less");
        x.tell();
        for (int i = 0; i < 3; i++) {
            due("bestFee(0)", x.bestFee(0), 0);
            due("bestFee(1)", x.bestFee(1), 6);
        }
        // 500 at most
        put(x, "buyer 1 9999;seller 1 0;law middle");
        x.tell();
        due("bestFee(0)", x.bestFee(0), 500);
        due("bestFee(1)", x.bestFee(1), 500);
        // WORTH 4 - FEE: the buyer pays 5 + FEE, the seller has 9 - FEE; TAKINGS 2 * FEE - 4
        put(x, "buyer 0 9;seller 0 5;law apart");
        x.tell();
        due("bestFee(0)", x.bestFee(0), 4);
        due("bestFee(1)", x.bestFee(1), 4);
        x.tell();
        due("bestFee(0) of none", x.bestFee(0), 0);
        due("bestFee(1) of none", x.bestFee(1), 0);
    }

    private static void dueServed(String text, int value, int pairs, int more) {
        TradeHall x = told(text);
        due("served(0) of " + text, x.served(0), value);
        due("served(1) of " + text, x.served(1), pairs);
        due("served(2) of " + text, x.served(2), more);
    }

    private static void served() {
        promise = 27;
        dueServed("", 0, 0, 0);
        dueServed(FAIR, 115, 3, 0);
        dueServed("buyer 1 10;seller 0 3", 7, 1, 7);
        dueServed("buyer 0 10;seller 1 3", 0, 0, 0);
        dueServed("buyer 3 10;seller 0 3;fee 2", 5, 1, 5);
        dueServed("buyer 0 5;seller 0 5", 0, 0, 0);
        dueServed("buyer 0 5 4;seller 0 2 4", 3, 1, 0);
        // the better one goes to the worse GRADE, where it is worth more
        dueServed("buyer 0 5;buyer 2 9;seller 0 3;seller 3 1;buyer 3 4", 9, 2, 4);
        // each of its own GRADE is best
        dueServed("seller 0 1;seller 1 2;buyer 0 6;buyer 1 8 4;seller 2 5;buyer 2 7", 13, 3, 0);
        TradeHall x = new TradeHall();
        due("served(3)", x.served(3), -1);
        due("served(-1)", x.served(-1), -1);
    }

    private static void share() {
        promise = 28;
        long nan = Double.doubleToLongBits(Double.NaN);
        due("share of none", new TradeHall().share(), nan);
        due("share without worth", told("buyer 0 5;seller 0 5").share(), nan);
        due("share of none done", told("buyer 0 6;seller 0 5").share(),
                Double.doubleToLongBits(0.0));
        TradeHall x = told(FAIR);
        due("share", x.share(), Double.doubleToLongBits(110.0 / 115.0));
        x.law(1);
        due("share", x.share(), Double.doubleToLongBits(1.0));
        // 1 of 3, of two GRADES
        due("share", told("buyer 0 4;seller 0 2;buyer 1 5 3;seller 1 4 5").share(),
                Double.doubleToLongBits(1.0 / 3.0));
        // 1 of 2, 2 of 2
        due("share", told("buyer 0 6 5;seller 0 4 5;law less").share(),
                Double.doubleToLongBits(2.0 / 2.0));
        due("share", told("buyer 0 6 6;seller 0 5 5;law less").share(),
                Double.doubleToLongBits(1.0 / 2.0));
        // 1 of 10000
        due("share", told("buyer 0 9999;seller 0 0;buyer 1 5 3;seller 1 4 5").share(),
                Double.doubleToLongBits(1.0 / 10000.0));
    }

    private static void audit() {
        promise = 29;
        int[] empty = {0, 0, 0, -2, 0, 0};
        TradeHall x = new TradeHall();
        for (int what = 0; what < 6; what++) {
            due("audit(" + what + ") of none", x.audit(what), empty[what]);
        }
        due("audit(6)", x.audit(6), MIN);
        due("audit(-1)", x.audit(-1), MIN);
        due("audit(3) of one", told("buyer 0").audit(3), 0);
        TradeHall y = told(FAIR + ";buyer 2 50;seller 2 20");
        due("audit(3)", y.audit(3), 0);
        y.close(0);
        dueAudit(y, 10, -10, 2, 2, 10, 1);
        y.law(3);
        // the buyer pays 20, the seller has 50: takings -30
        y.close(2);
        dueAudit(y, -20, 20, 3, 2, 10, 2);
        y.law(1);
        y.fee(1);
        y.close(0);
        dueAudit(y, -19, 19, 4, 2, 10, 3);
        y.undo();
        dueAudit(y, -20, 20, 3, 2, 10, 2);
        // with like PURSES the least TRADER
        TradeHall z = told("buyer 0 9 5;seller 1 3;seller 0 4 8;law middle");
        z.close(0);
        z.undo();
        due("audit(3)", z.audit(3), 0);
        z.close(0);
        due("audit(3)", z.audit(3), 2);
        TradeHall second = told("buyer 0 9;seller 0 5;law middle");
        second.close(0);
        due("audit(3)", second.audit(3), 1);
    }

    private static void dueAudit(TradeHall x, int... want) {
        for (int what = 0; what < want.length; what++) {
            due("audit(" + what + ")", x.audit(what), want[what]);
        }
    }

    private static void entry() {
        promise = 30;
        TradeHall x = told(FAIR);
        due("entry(false, 0)", x.entry(false, 0), -2);
        due("entry(true, 0)", x.entry(true, 0), -2);
        due("entry(false, 4)", x.entry(false, 4), -1);
        due("entry(true, -1)", x.entry(true, -1), -1);
        due("entry(true, 3)", x.entry(true, 3), -2);
        // BIDS 9 7 6, ASKS 3 6: one ASK more, of 6 with FEE at most, meets the BID 6
        TradeHall y = told("buyer 0 9 7 6;seller 0 1 4;fee 2;seller 1 5;buyer 2 5");
        due("entry(true, 0)", y.entry(true, 0), 4);
        due("entry(false, 0)", y.entry(false, 0), -2);
        due("entry(false, 1)", y.entry(false, 1), 7);
        due("entry(true, 1)", y.entry(true, 1), -2);
        due("entry(true, 2)", y.entry(true, 2), 3);
        due("entry(false, 2)", y.entry(false, 2), -2);
        // the next ASK is as great as the LAST BID: just
        TradeHall z = told("buyer 0 9;seller 0 1 9;buyer 1 1;fee 0;seller 2 9999");
        due("entry(false, 0)", z.entry(false, 0), 9);
        due("entry(true, 1)", z.entry(true, 1), 1);
        due("entry(false, 2)", z.entry(false, 2), 9999);
        z.fee(1);
        due("entry(false, 0)", z.entry(false, 0), -2);
        due("entry(true, 1)", z.entry(true, 1), 0);
        due("entry(false, 2)", z.entry(false, 2), -2);
        z.fee(2);
        due("entry(true, 1)", z.entry(true, 1), -2);
        // the next BID is as small as the LAST ASK: just
        due("entry(true)", told("buyer 0 9 4;seller 0 4").entry(true, 0), 4);
        due("entry(true)", told("buyer 0 9 3;seller 0 4").entry(true, 0), -2);
    }

    private static void letter() {
        promise = 31;
        TradeHall x = new TradeHall();
        due("letter(-1)", x.letter(-1), 0);
        due("letter(0)", x.letter(0), -2);
        due("letter(-2)", x.letter(-2), -1);
        due("letter(MIN)", x.letter(MIN), -1);
        x.law(3);
        dueText("law alone", x, "law apart");
        x.fee(500);
        dueText("fee and law", x, "fee 500;law apart");
        x.come(true, 3);
        x.come(false, 0);
        x.add(1, 1009);
        x.add(1, 10);
        x.add(1, 0);
        dueText("all", x, "seller 3;buyer 0 1009 10 0;fee 500;law apart");
        due("letter(-1)", x.letter(-1), 44);
        due("letter(43)", x.letter(43), 't');
        due("letter(44)", x.letter(44), -2);
        due("letter(MAX)", x.letter(MAX), -2);
        x.law(1);
        x.fee(0);
        dueText("middle", x, "seller 3;buyer 0 1009 10 0;law middle");
        x.law(2);
        dueText("less", x, "seller 3;buyer 0 1009 10 0;law less");
        longestLetter();
    }

    private static void longestLetter() {
        TradeHall x = new TradeHall();
        StringBuilder due = new StringBuilder();
        for (int t = 0; t < 20; t++) {
            x.come(true, 3);
            for (int u = 0; u < 4; u++) {
                x.add(t, 9999);
            }
            due.append("seller 3 9999 9999 9999 9999;");
        }
        x.fee(500);
        x.law(1);
        due.append("fee 500;law middle");
        due("letter(-1)", x.letter(-1), due.length());
        for (int k = 0; k < 600; k += 7) {
            int want = k < due.length() ? due.charAt(k) : -2;
            due("letter(" + k + ")", x.letter(k), want);
        }
    }

    private static void match() {
        promise = 32;
        TradeHall x = told(FAIR + ";law middle");
        int[][] want = {{0, 0, 2, 0}, {0, 1, 2, 1}, {1, 0, 3, 0}};
        for (int k = 0; k < 3; k++) {
            for (int what = 0; what < 4; what++) {
                due("match(0, " + k + ", " + what + ")", x.match(0, k, what), want[k][what]);
            }
        }
        due("match(0, -1, 0)", x.match(0, -1, 0), 3);
        due("match(0, 3, 0)", x.match(0, 3, 0), -1);
        due("match(0, -1, 1)", x.match(0, -1, 1), -1);
        due("match(0, -2, 0)", x.match(0, -2, 0), -1);
        due("match(0, 0, 4)", x.match(0, 0, 4), -1);
        due("match(0, 0, -1)", x.match(0, 0, -1), -1);
        due("match(4, -1, 0)", x.match(4, -1, 0), -1);
        due("match(1, -1, 0)", x.match(1, -1, 0), 0);
        due("match(1, 0, 0)", x.match(1, 0, 0), -1);
        x.law(2);
        due("match(0, -1, 0)", x.match(0, -1, 0), 2);
        due("match(0, 2, 0)", x.match(0, 2, 0), -1);
    }

    private static void merged() {
        promise = 33;
        TradeHall x = told("buyer 0 10;seller 1 3;seller 0 8;buyer 1 5;fee 1;buyer 2 9");
        int[] want = {1, 6, 4};
        for (int what = 0; what < 3; what++) {
            due("merged(0, 1, " + what + ")", x.merged(0, 1, what), want[what]);
            due("merged(1, 0, " + what + ")", x.merged(1, 0, what), want[what]);
        }
        due("merged(2, 1, 0)", x.merged(2, 1, 0), 1);
        due("merged(2, 1, 1)", x.merged(2, 1, 1), 5);
        due("merged(2, 1, 2)", x.merged(2, 1, 2), 4);
        due("merged(2, 3, 1)", x.merged(2, 3, 1), 0);
        due("merged(0, 0, 0)", x.merged(0, 0, 0), -1);
        due("merged(0, 4, 0)", x.merged(0, 4, 0), -1);
        due("merged(-1, 0, 0)", x.merged(-1, 0, 0), -1);
        due("merged(0, 1, 3)", x.merged(0, 1, 3), -1);
        due("merged(0, 1, -1)", x.merged(0, 1, -1), -1);
    }

    private static void duePrices(String text, int least, int greatest, int count) {
        TradeHall x = told(text);
        due("prices(0, 0) of " + text, x.prices(0, 0), least);
        due("prices(0, 1) of " + text, x.prices(0, 1), greatest);
        due("prices(0, 2) of " + text, x.prices(0, 2), count);
    }

    private static void prices() {
        promise = 34;
        duePrices(FAIR, 55, 60, 6);
        duePrices("buyer 0 9;seller 0 3;fee 2", 5, 9, 5);
        duePrices("buyer 0 9 4;seller 0 3 7;fee 2", 5, 9, 5);
        duePrices("buyer 0 9 4;seller 0 3 5;fee 0", 4, 5, 2);
        duePrices("buyer 0 9 7;seller 0 3", 7, 9, 3);
        duePrices("buyer 0 9;seller 0 3 8", 3, 8, 6);
        duePrices("buyer 0 9;seller 0 9", 9, 9, 1);
        duePrices("buyer 0 8;seller 0 9", -2, -2, -2);
        TradeHall x = new TradeHall();
        due("prices(0, 2)", x.prices(0, 2), -2);
        due("prices(0, 3)", x.prices(0, 3), -1);
        due("prices(0, -1)", x.prices(0, -1), -1);
        due("prices(4, 0)", x.prices(4, 0), -1);
        due("prices(-1, 0)", x.prices(-1, 0), -1);
    }

    private static void bar() {
        promise = 35;
        TradeHall x = told(FAIR);
        due("bar(1)", x.bar(1), 10);
        due("bar(3)", x.bar(3), -10);
        due("bar(4)", x.bar(4), MIN);
        due("bar(-1)", x.bar(-1), MIN);
        TradeHall y = told("buyer 0 600;seller 0 100;buyer 0;law middle;seller 1 5");
        due("bar(0)", y.bar(0), -500);
        due("bar(1)", y.bar(1), 500);
        due("bar(2)", y.bar(2), -1000);
        due("bar(3)", y.bar(3), -1000);
        y.say(0, 0, 599);
        due("bar(0)", y.bar(0), -499);
        due("bar(1)", y.bar(1), 499);
        TradeHall far = told("buyer 0 100;seller 0 600;law middle");
        due("bar(0)", far.bar(0), 500);
        due("bar(1)", far.bar(1), -500);
        far.fee(1);
        due("bar(0)", far.bar(0), -1000);
        due("bar(1)", far.bar(1), -1000);
    }

    private static void helps() {
        promise = 36;
        TradeHall x = told(FAIR + ";buyer 1 9");
        due("helps(0, 1)", x.helps(0, 1), -20);
        due("helps(1, 0)", x.helps(1, 0), 30);
        due("helps(2, 3)", x.helps(2, 3), -30);
        due("helps(2, 0)", x.helps(2, 0), -40);
        due("helps(0, 2)", x.helps(0, 2), -25);
        due("helps(1, 3)", x.helps(1, 3), 0);
        due("helps(0, 0)", x.helps(0, 0), MIN);
        due("helps(0, 4)", x.helps(0, 4), MIN);
        due("helps(4, 0)", x.helps(4, 0), MIN);
        due("helps(0, 5)", x.helps(0, 5), MIN);
        due("helps(-1, 0)", x.helps(-1, 0), MIN);
    }

    // ---- 37 to 44 ----

    private static void winner() {
        promise = 37;
        TradeHall x = told("buyer 1 5;" + FAIR);
        due("winner(0, 0)", x.winner(0, 0), 3);
        due("winner(0, 1)", x.winner(0, 1), 60);
        due("winner(0, 2)", x.winner(0, 2), 2);
        due("winner(1, 0)", x.winner(1, 0), 0);
        due("winner(1, 1)", x.winner(1, 1), 0);
        due("winner(1, 2)", x.winner(1, 2), 0);
        due("winner(2, 0)", x.winner(2, 0), -2);
        due("winner(2, 1)", x.winner(2, 1), 0);
        due("winner(2, 2)", x.winner(2, 2), 0);
        due("winner(0, 3)", x.winner(0, 3), MIN);
        due("winner(2, -1)", x.winner(2, -1), MIN);
        due("winner(4, 0)", x.winner(4, 0), MIN);
        due("winner(-1, 0)", x.winner(-1, 0), MIN);
        // like gains of 2: the least
        TradeHall y = told("buyer 2;seller 2 3;buyer 2 7;law middle");
        due("winner(2, 0)", y.winner(2, 0), 1);
        due("winner(2, 1)", y.winner(2, 1), 2);
        due("winner(2, 2)", y.winner(2, 2), 2);
        // the buyer gains 1, the seller 0
        TradeHall z = told("buyer 0 5;seller 0 4;law middle");
        due("winner(0, 1)", z.winner(0, 1), 1);
        due("winner(0, 2)", z.winner(0, 2), 1);
    }

    private static void demand() {
        promise = 38;
        TradeHall x = told(FAIR + ";fee 5");
        // BIDS 90 70 60 20, ASKS 15 45 60 85
        int[][] want = {{0, 4, 0, 0}, {15, 4, 1, 1}, {20, 4, 1, 1}, {21, 3, 1, 1}, {60, 3, 3, 3},
            {59, 3, 2, 2}, {61, 2, 3, 2}, {90, 1, 4, 1}, {91, 0, 4, 0}, {10499, 0, 4, 0}};
        for (int[] due : want) {
            for (int what = 0; what < 3; what++) {
                due("demand(0, " + due[0] + ", " + what + ")", x.demand(0, due[0], what),
                        due[what + 1]);
            }
        }
        due("demand(1, 5, 0)", x.demand(1, 5, 0), 0);
        due("demand(0, -1, 0)", x.demand(0, -1, 0), -1);
        due("demand(0, 10500, 0)", x.demand(0, 10500, 0), -1);
        due("demand(0, 5, 3)", x.demand(0, 5, 3), -1);
        due("demand(0, 5, -1)", x.demand(0, 5, -1), -1);
        due("demand(4, 5, 0)", x.demand(4, 5, 0), -1);
        TradeHall y = told("seller 0 9999;fee 500");
        due("demand(0, 10498, 1)", y.demand(0, 10498, 1), 0);
        due("demand(0, 10499, 1)", y.demand(0, 10499, 1), 1);
    }

    private static void lively() {
        promise = 39;
        TradeHall x = told(FAIR + ";fee 2;buyer 1 5;seller 1 4");
        due("lively(0, 0)", x.lively(0, 0), 57);
        due("lively(0, 1)", x.lively(0, 1), 60);
        due("lively(0, 2)", x.lively(0, 2), 3);
        due("lively(1, 0)", x.lively(1, 0), 0);
        due("lively(1, 1)", x.lively(1, 1), 10499);
        due("lively(1, 2)", x.lively(1, 2), 0);
        TradeHall dropped = told("buyer 0 9;seller 0 5");
        due("lively(0, 0)", dropped.lively(0, 0), 5);
        due("lively(0, 1)", dropped.lively(0, 1), 9);
        due("lively(0, 2)", dropped.lively(0, 2), 1);
        due("lively(0, 3)", x.lively(0, 3), -1);
        due("lively(0, -1)", x.lively(0, -1), -1);
        due("lively(4, 0)", x.lively(4, 0), -1);
        due("lively(-1, 0)", x.lively(-1, 0), -1);
    }

    private static void pact() {
        promise = 40;
        TradeHall x = told("buyer 0 10;buyer 0 8;seller 0 2;law middle;buyer 1 9");
        // by -7 BIDS 3 1: the middle of 3 and 2 is 2
        due("pact(0, 1, 0)", x.pact(0, 1, 0), 8);
        due("pact(0, 1, 1)", x.pact(0, 1, 1), -7);
        due("pact(0, 1, 2)", x.pact(0, 1, 2), 4);
        due("pact(1, 0, 1)", x.pact(1, 0, 1), -7);
        // a buyer and a seller by one d: what one gains the other loses, so 0
        due("pact(0, 2, 0)", x.pact(0, 2, 0), 8);
        due("pact(0, 2, 1)", x.pact(0, 2, 1), 0);
        due("pact(0, 2, 2)", x.pact(0, 2, 2), 0);
        due("pact(0, 0, 0)", x.pact(0, 0, 0), MIN);
        due("pact(0, 3, 0)", x.pact(0, 3, 0), MIN);
        due("pact(0, 4, 0)", x.pact(0, 4, 0), MIN);
        due("pact(-1, 0, 0)", x.pact(-1, 0, 0), MIN);
        due("pact(0, 1, 3)", x.pact(0, 1, 3), MIN);
        due("pact(0, 1, -1)", x.pact(0, 1, -1), MIN);
        // 100 at most: the middle of 400 and 51 is 225, that of 401 and 51 is 226
        TradeHall far = told("buyer 0 500;buyer 0 450;seller 0 51;law middle");
        due("pact(0, 1, 0)", far.pact(0, 1, 0), 500 - 225);
        due("pact(0, 1, 1)", far.pact(0, 1, 1), -100);
        due("pact(0, 1, 2)", far.pact(0, 1, 2), 50);
        TradeHall dear = told("buyer 0 600;seller 0 50;seller 0 100;law middle");
        due("pact(1, 2, 0)", dear.pact(1, 2, 0), 375 - 50);
        due("pact(1, 2, 1)", dear.pact(1, 2, 1), 100);
        due("pact(1, 2, 2)", dear.pact(1, 2, 2), 50);
        // by -1 the price is 3: 10 - 3 and 3 - 4; by 1 it is 4 and the buyer's alone: 10 - 4
        TradeHall like = told("buyer 0 3;seller 0 4;buyer 0 10;seller 0 5;seller 0 4 5");
        due("pact(1, 2, 0)", like.pact(1, 2, 0), 6);
        due("pact(1, 2, 1)", like.pact(1, 2, 1), -1);
        due("pact(1, 2, 2)", like.pact(1, 2, 2), 6);
    }

    private static void moved() {
        promise = 41;
        TradeHall x = told("buyer 0 10;seller 1 3;seller 1 5;buyer 1 4;law middle;buyer 2");
        int[] grades = {1, 0, 0, 1, 2};
        int[] gains = {4, 3, 2, 1, 0};
        for (int t = 0; t < 5; t++) {
            due("moved(" + t + ", 0)", x.moved(t, 0), grades[t]);
            due("moved(" + t + ", 1)", x.moved(t, 1), gains[t]);
        }
        due("moved(5, 0)", x.moved(5, 0), MIN);
        due("moved(-1, 0)", x.moved(-1, 0), MIN);
        due("moved(0, 2)", x.moved(0, 2), MIN);
        due("moved(0, -1)", x.moved(0, -1), MIN);
        dueText("moved", x, "buyer 0 10;seller 1 3;seller 1 5;buyer 1 4;buyer 2;law middle");
        TradeHall y = told("buyer 3 10;seller 1 2;seller 2 2;law middle");
        due("moved(0, 0)", y.moved(0, 0), 1);
        due("moved(0, 1)", y.moved(0, 1), 4);
        y.come(true, 3);
        y.add(3, 2);
        due("moved(0, 0) of like ones", y.moved(0, 0), 3);
        TradeHall z = told("buyer 0 5;seller 0 4;buyer 1 6;law middle");
        due("moved(1, 0)", z.moved(1, 0), 1);
        due("moved(1, 1)", z.moved(1, 1), 1);
    }

    private static void ranked() {
        promise = 42;
        TradeHall x = told(FAIR + ";buyer 1 5");
        int[] order = {2, 0, 1, 3};
        for (int k = 0; k < 4; k++) {
            due("ranked(0, " + k + ")", x.ranked(0, k), order[k]);
        }
        due("ranked(0, -1)", x.ranked(0, -1), 4);
        due("ranked(0, 4)", x.ranked(0, 4), -2);
        due("ranked(0, MAX)", x.ranked(0, MAX), -2);
        due("ranked(0, -2)", x.ranked(0, -2), -1);
        due("ranked(4, 0)", x.ranked(4, 0), -1);
        due("ranked(-1, -1)", x.ranked(-1, -1), -1);
        due("ranked(1, 0)", x.ranked(1, 0), 4);
        due("ranked(2, -1)", x.ranked(2, -1), 0);
        due("ranked(2, 0)", x.ranked(2, 0), -2);
    }

    private static void skim() {
        promise = 43;
        TradeHall x = told(FAIR);
        int[][] want = {{3, 115}, {1, 35}, {1, 5}, {0, 0}, {0, 0}};
        for (int n = 0; n < 5; n++) {
            due("skim(0, " + n + ", 0)", x.skim(0, n, 0), want[n][0]);
            due("skim(0, " + n + ", 1)", x.skim(0, n, 1), want[n][1]);
        }
        due("skim(0, 20, 0)", x.skim(0, 20, 0), 0);
        due("skim(1, 3, 1)", x.skim(1, 3, 1), 0);
        due("skim(0, 21, 0)", x.skim(0, 21, 0), -1);
        due("skim(0, -1, 0)", x.skim(0, -1, 0), -1);
        due("skim(0, 0, 2)", x.skim(0, 0, 2), -1);
        due("skim(0, 0, -1)", x.skim(0, 0, -1), -1);
        due("skim(4, 0, 0)", x.skim(4, 0, 0), -1);
    }

    private static void count() {
        promise = 44;
        TradeHall x = told(FAIR + ";buyer 3 9 8 7;seller 3 9;buyer 2 1");
        x.fee(0);
        x.law(2);
        x.fee(1);
        x.fee(0);
        x.keep(1);
        x.feed(0, 0, 0, 0, 0);
        int[] want = {7, 13, 0, 2, 3, 20, 2, 9, 115};
        for (int what = 0; what < 9; what++) {
            due("count(" + what + ")", x.count(what), want[what]);
        }
        x.fee(1);
        due("count(2)", x.count(2), 1);
        due("count(7)", x.count(7), 1);
        due("count(8)", x.count(8), 112);
        due("count(9)", x.count(9), -1);
        due("count(-1)", x.count(-1), -1);
        due("count(MIN)", x.count(MIN), -1);
    }
}
