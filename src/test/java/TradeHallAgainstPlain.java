import java.math.BigInteger;
import java.util.ArrayDeque;
import java.util.ArrayList;
import java.util.Comparator;
import java.util.List;
import java.util.function.IntUnaryOperator;
import java.util.function.ToIntFunction;

/**
 * Long runs of calls, the same ones on a TradeHall and on a plain model of the document that
 * sorts anew for every question and tries every value, price and fee one by one.
 */
public final class TradeHallAgainstPlain {
    private static final int MIN = Integer.MIN_VALUE;
    private static int wrong = 0;
    private static long asked = 0;

    public static void main(String[] args) {
        int runs = args.length > 0 ? Integer.parseInt(args[0]) : 220;
        for (int run = 0; run < runs && wrong < 20; run++) {
            new Run(run).go();
        }
        System.out.println(asked + " calls, " + wrong + " answers are not as due");
        if (wrong != 0) {
            System.exit(1);
        }
    }

    // ---- the plain model ----

    record Unit(int trader, int unit, int amount) { }

    static final class Trader {
        boolean sells;
        int grade;
        int purse;
        int traded;
        List<Integer> says = new ArrayList<>();

        Trader(boolean sells, int grade) {
            this.sells = sells;
            this.grade = grade;
        }

        Trader copy() {
            Trader c = new Trader(sells, grade);
            c.purse = purse;
            c.traded = traded;
            c.says = new ArrayList<>(says);
            return c;
        }
    }

    /** A hall; a null trader is one that is not there. */
    static final class Plain {
        List<Trader> traders = new ArrayList<>();
        int fee;
        int law;
        int chest;
        int closed;
        List<Integer> takingsOfCloses = new ArrayList<>();

        Plain copy() {
            Plain c = new Plain();
            for (Trader t : traders) {
                c.traders.add(t == null ? null : t.copy());
            }
            c.fee = fee;
            c.law = law;
            c.chest = chest;
            c.closed = closed;
            c.takingsOfCloses = new ArrayList<>(takingsOfCloses);
            return c;
        }

        Plain without(int trader) {
            Plain c = copy();
            c.traders.set(trader, null);
            return c;
        }

        Plain lying(int d, int... liars) {
            Plain c = copy();
            for (int liar : liars) {
                c.traders.get(liar).says.replaceAll(v -> Math.max(0, Math.min(9999, v + d)));
            }
            return c;
        }

        Plain withFee(int pence) {
            Plain c = copy();
            c.fee = pence;
            return c;
        }

        Plain withLaw(int other) {
            Plain c = copy();
            c.law = other;
            return c;
        }

        List<Unit> rowOf(int grade, boolean asks) {
            List<Unit> row = new ArrayList<>();
            for (int t = 0; t < traders.size(); t++) {
                Trader who = traders.get(t);
                if (who != null && who.grade == grade && who.sells == asks) {
                    for (int u = 0; u < who.says.size(); u++) {
                        row.add(new Unit(t, u, who.says.get(u) + (asks ? fee : 0)));
                    }
                }
            }
            Comparator<Unit> byAmount = Comparator.comparingInt(Unit::amount);
            row.sort((asks ? byAmount : byAmount.reversed())
                    .thenComparingInt(Unit::trader).thenComparingInt(Unit::unit));
            return row;
        }

        int tradesOf(int grade) {
            return trades(rowOf(grade, false), rowOf(grade, true));
        }

        static int trades(List<Unit> bids, List<Unit> asks) {
            int best = 0;
            for (int k = 1; k <= Math.min(bids.size(), asks.size()); k++) {
                if (bids.get(k - 1).amount() >= asks.get(k - 1).amount()) {
                    best = k;
                }
            }
            return best;
        }

        int worthOf(int grade) {
            List<Unit> bids = rowOf(grade, false);
            List<Unit> asks = rowOf(grade, true);
            return firsts(bids, asks, trades(bids, asks));
        }

        static int firsts(List<Unit> bids, List<Unit> asks, int k) {
            return bids.subList(0, k).stream().mapToInt(Unit::amount).sum()
                    - asks.subList(0, k).stream().mapToInt(Unit::amount).sum();
        }

        Deal dealOf(int grade) {
            return new Deal(this, grade);
        }

        int worth() {
            return worthOf(0) + worthOf(1) + worthOf(2) + worthOf(3);
        }

        String text() {
            List<String> parts = new ArrayList<>();
            for (Trader t : traders) {
                StringBuilder part = new StringBuilder(t.sells ? "seller " : "buyer ");
                part.append(t.grade);
                t.says.forEach(v -> part.append(' ').append(v));
                parts.add(part.toString());
            }
            if (fee != 0) {
                parts.add("fee " + fee);
            }
            if (law != 0) {
                parts.add("law " + List.of("cut", "middle", "less", "apart").get(law));
            }
            return String.join(";", parts);
        }
    }

    /** What the law does in a grade. */
    static final class Deal {
        final Plain hall;
        final int grade;
        final List<Unit> bids;
        final List<Unit> asks;
        final int k;
        final int worth;
        int done;
        Integer pays;
        Integer has;

        Deal(Plain hall, int grade) {
            this.hall = hall;
            this.grade = grade;
            bids = hall.rowOf(grade, false);
            asks = hall.rowOf(grade, true);
            k = Plain.trades(bids, asks);
            worth = Plain.firsts(bids, asks, k);
            if (k == 0) {
                return;
            }
            int lastBid = bids.get(k - 1).amount();
            int lastAsk = asks.get(k - 1).amount();
            Integer price = null;
            if (hall.law == 1) {
                price = Math.floorDiv(lastBid + lastAsk, 2);
            }
            if (hall.law == 0 && bids.size() > k && asks.size() > k) {
                int middle = Math.floorDiv(bids.get(k).amount() + asks.get(k).amount(), 2);
                price = middle > lastBid || middle < lastAsk ? null : (Integer) middle;
            }
            if (hall.law == 3) {
                done = k;
            } else if (price != null) {
                done = k;
                pays = price;
                has = price - hall.fee;
            } else {
                done = k - 1;
                pays = lastBid;
                has = lastAsk - hall.fee;
            }
        }

        int doneOf(int trader) {
            int n = 0;
            for (int i = 0; i < done; i++) {
                n += bids.get(i).trader() == trader ? 1 : 0;
                n += asks.get(i).trader() == trader ? 1 : 0;
            }
            return n;
        }

        int saidDone(int trader) {
            return hall.traders.get(trader).says.subList(0, doneOf(trader)).stream()
                    .mapToInt(v -> v).sum();
        }

        int money(int trader) {
            int n = doneOf(trader);
            if (n == 0) {
                return 0;
            }
            boolean sells = hall.traders.get(trader).sells;
            if (hall.law != 3) {
                return n * (sells ? has : pays);
            }
            int without = hall.without(trader).worthOf(grade);
            return sells
                    ? worth + (saidDone(trader) + n * hall.fee) - without - n * hall.fee
                    : without - (worth - saidDone(trader));
        }

        int gain(int trader, Plain truth) {
            Trader t = truth.traders.get(trader);
            int said = t.says.subList(0, doneOf(trader)).stream().mapToInt(v -> v).sum();
            return t.sells ? money(trader) - said : said - money(trader);
        }

        int takings() {
            int sum = 0;
            for (int t = 0; t < hall.traders.size(); t++) {
                Trader who = hall.traders.get(t);
                if (who != null && who.grade == grade) {
                    sum += who.sells ? -money(t) : money(t);
                }
            }
            return sum;
        }

        int doneWorth() {
            return Plain.firsts(bids, asks, done);
        }
    }

    /** Reads a text by cutting it into pieces first. */
    static final class PlainText {
        record Piece(int at, String text) { }

        final Plain hall = new Plain();
        final List<Piece> pieces = new ArrayList<>();
        final int length;
        int next = 0;
        int fault = 0;

        PlainText(String text) {
            length = text.length();
            java.util.regex.Matcher m =
                    java.util.regex.Pattern.compile("[a-z]+|[0-9]+|[^ ]", java.util.regex.Pattern.DOTALL).matcher(text);
            while (m.find()) {
                pieces.add(new Piece(m.start(), m.group()));
            }
            if (!pieces.isEmpty()) {
                parts();
            }
        }

        private Piece peek() {
            return next < pieces.size() ? pieces.get(next) : new Piece(length, "");
        }

        private boolean fail(Piece p, int kind) {
            fault = 8 * p.at() + kind;
            return false;
        }

        private void parts() {
            boolean fee = false;
            boolean law = false;
            while (true) {
                Piece word = peek();
                next++;
                switch (word.text()) {
                    case "buyer", "seller" -> {
                        if (hall.traders.size() == 20) {
                            fail(word, 3);
                            return;
                        }
                        if (!trader(word.text().equals("seller"))) {
                            return;
                        }
                    }
                    case "fee" -> {
                        if (fee) {
                            fail(word, 3);
                            return;
                        }
                        fee = true;
                        if (!number(500)) {
                            return;
                        }
                        hall.fee = last;
                    }
                    case "law" -> {
                        if (law) {
                            fail(word, 3);
                            return;
                        }
                        law = true;
                        hall.law = List.of("cut", "middle", "less", "apart").indexOf(peek().text());
                        if (hall.law < 0) {
                            fail(peek(), 1);
                            return;
                        }
                        next++;
                    }
                    default -> {
                        fail(word, 1);
                        return;
                    }
                }
                if (next >= pieces.size()) {
                    return;
                }
                if (!peek().text().equals(";")) {
                    fail(peek(), 1);
                    return;
                }
                next++;
            }
        }

        private int last;

        private boolean number(int most) {
            Piece p = peek();
            if (!p.text().matches("[0-9]+")) {
                return fail(p, 1);
            }
            if (new BigInteger(p.text()).compareTo(BigInteger.valueOf(most)) > 0) {
                return fail(p, 2);
            }
            last = Integer.parseInt(p.text());
            next++;
            return true;
        }

        private boolean trader(boolean sells) {
            if (!number(3)) {
                return false;
            }
            Trader t = new Trader(sells, last);
            hall.traders.add(t);
            while (peek().text().matches("[0-9]+")) {
                Piece p = peek();
                if (!number(9999)) {
                    return false;
                }
                if (!t.says.isEmpty()) {
                    int ahead = t.says.get(t.says.size() - 1);
                    if (sells ? last < ahead : last > ahead) {
                        return fail(p, 2);
                    }
                }
                if (t.says.size() == 4) {
                    return fail(p, 3);
                }
                t.says.add(last);
            }
            return true;
        }
    }

    /** The model of all calls. */
    static final class Model {
        Plain hall = new Plain();
        StringBuilder tape = new StringBuilder();
        ArrayDeque<Plain> past = new ArrayDeque<>();
        Plain[] shelves = new Plain[2];

        private boolean has(int t) {
            return t >= 0 && t < hall.traders.size();
        }

        private static boolean in(int v, int from, int to) {
            return v >= from && v <= to;
        }

        private void act() {
            past.push(hall.copy());
            if (past.size() > 10) {
                past.removeLast();
            }
        }

        int feed(int... five) {
            if (tape.length() + 20 > 400) {
                return -1;
            }
            for (int v : five) {
                for (byte b : java.nio.ByteBuffer.allocate(4).putInt(v).array()) {
                    tape.append((char) (b & 255));
                }
            }
            return tape.length();
        }

        int end(int n) {
            if (n < 0 || n > tape.length()) {
                return -1;
            }
            tape.setLength(n);
            return n;
        }

        int tell() {
            PlainText text = new PlainText(tape.toString());
            tape.setLength(0);
            if (text.fault != 0) {
                return -2 - text.fault;
            }
            hall = text.hall;
            past.clear();
            return hall.traders.size();
        }

        int come(boolean sells, int grade) {
            if (!in(grade, 0, 3)) {
                return -1;
            }
            if (hall.traders.size() == 20) {
                return -2;
            }
            act();
            hall.traders.add(new Trader(sells, grade));
            return hall.traders.size() - 1;
        }

        private static boolean sorted(Trader t, List<Integer> says) {
            List<Integer> due = new ArrayList<>(says);
            due.sort(t.sells ? Comparator.naturalOrder() : Comparator.reverseOrder());
            return due.equals(says);
        }

        int add(int t, int value) {
            if (!has(t) || !in(value, 0, 9999)) {
                return -1;
            }
            Trader who = hall.traders.get(t);
            if (who.says.size() == 4) {
                return -2;
            }
            List<Integer> says = new ArrayList<>(who.says);
            says.add(value);
            if (!sorted(who, says)) {
                return -3;
            }
            act();
            who.says = says;
            return says.size();
        }

        int say(int t, int u, int value) {
            if (!has(t) || !in(u, 0, hall.traders.get(t).says.size() - 1) || !in(value, 0, 9999)) {
                return -1;
            }
            Trader who = hall.traders.get(t);
            int was = who.says.get(u);
            if (was == value) {
                return -2;
            }
            List<Integer> says = new ArrayList<>(who.says);
            says.set(u, value);
            if (!sorted(who, says)) {
                return -3;
            }
            act();
            who.says = says;
            return was;
        }

        int leave(int t) {
            if (!has(t) || hall.traders.get(t).says.isEmpty()) {
                return -1;
            }
            act();
            int n = hall.traders.get(t).says.size();
            hall.traders.get(t).says.clear();
            return n;
        }

        int fee(int pence) {
            if (!in(pence, 0, 500)) {
                return -1;
            }
            if (pence == hall.fee) {
                return -2;
            }
            act();
            int was = hall.fee;
            hall.fee = pence;
            return was;
        }

        int law(int law) {
            if (!in(law, 0, 3)) {
                return -1;
            }
            if (law == hall.law) {
                return -2;
            }
            act();
            int was = hall.law;
            hall.law = law;
            return was;
        }

        int close(int grade) {
            if (!in(grade, 0, 3)) {
                return -1;
            }
            Deal deal = hall.dealOf(grade);
            if (deal.done == 0) {
                return -2;
            }
            act();
            Plain after = hall.copy();
            for (int t = 0; t < hall.traders.size(); t++) {
                Trader who = after.traders.get(t);
                int n = who.grade == grade ? deal.doneOf(t) : 0;
                who.traded += n;
                if (n > 0) {
                    who.purse += who.sells ? deal.money(t) : -deal.money(t);
                    who.says.subList(0, n).clear();
                }
            }
            after.chest += deal.takings();
            after.closed += deal.done;
            after.takingsOfCloses.add(deal.takings());
            hall = after;
            return deal.done;
        }

        int undo() {
            if (past.isEmpty()) {
                return -1;
            }
            hall = past.pop();
            return past.size();
        }

        int keep(int shelf) {
            if (!in(shelf, 0, 1)) {
                return -1;
            }
            shelves[shelf] = hall.copy();
            return hall.traders.size();
        }

        int back(int shelf) {
            if (!in(shelf, 0, 1)) {
                return -1;
            }
            if (shelves[shelf] == null) {
                return -2;
            }
            hall = shelves[shelf].copy();
            past.clear();
            return hall.traders.size();
        }

        int trader(int t, int what) {
            if (!has(t)) {
                return MIN;
            }
            Trader who = hall.traders.get(t);
            if (what >= 10 && what <= 13) {
                return what - 10 < who.says.size() ? who.says.get(what - 10) : MIN;
            }
            return switch (what) {
                case 0 -> who.sells ? 1 : 0;
                case 1 -> who.grade;
                case 2 -> who.says.size();
                case 3 -> who.purse;
                case 4 -> hall.dealOf(who.grade).doneOf(t);
                case 5 -> who.traded;
                default -> MIN;
            };
        }

        int row(int grade, boolean asks, int k, int what) {
            if (!in(grade, 0, 3)) {
                return -1;
            }
            List<Unit> row = hall.rowOf(grade, asks);
            if (k == -1 && what == 0) {
                return row.size();
            }
            if (!in(k, 0, row.size() - 1) || !in(what, 0, 2)) {
                return -1;
            }
            Unit u = row.get(k);
            return what == 0 ? u.trader() : what == 1 ? u.unit() : u.amount();
        }

        int market(int grade, int what) {
            if (!in(grade, 0, 3)) {
                return MIN;
            }
            Deal d = hall.dealOf(grade);
            return switch (what) {
                case 0 -> d.k;
                case 1 -> d.worth;
                case 2 -> d.done;
                case 3 -> d.done == 0 || d.pays == null ? -2 : d.pays;
                case 4 -> d.done == 0 || d.has == null ? -2 : d.has;
                case 5 -> d.takings();
                case 6 -> d.worth - d.doneWorth();
                case 7 -> d.k == 0 ? -2 : d.bids.get(d.k - 1).amount();
                case 8 -> d.k == 0 ? -2 : d.asks.get(d.k - 1).amount();
                default -> MIN;
            };
        }

        int deal(int t, int what) {
            if (!has(t) || !in(what, 0, 1)) {
                return MIN;
            }
            Deal d = hall.dealOf(hall.traders.get(t).grade);
            return what == 0 ? d.money(t) : d.gain(t, hall);
        }

        private int gainByLie(int t, int d) {
            return hall.lying(d, t).dealOf(hall.traders.get(t).grade).gain(t, hall);
        }

        int lie(int t, int d) {
            return has(t) && in(d, -500, 500) ? gainByLie(t, d) : MIN;
        }

        /** The best d of -bound to bound, nearest to 0, then below it. */
        private static int[] best(int bound, IntUnaryOperator gain) {
            int most = MIN;
            int by = 0;
            for (int d = -bound; d <= bound; d++) {
                int g = gain.applyAsInt(d);
                if (g > most || g == most && Math.abs(d) < Math.abs(by)) {
                    most = g;
                    by = d;
                }
            }
            return new int[] {most, by};
        }

        int tempted(int t, int what) {
            if (!has(t) || !in(what, 0, 1)) {
                return MIN;
            }
            return best(200, d -> gainByLie(t, d))[what];
        }

        int missed(int t) {
            if (!has(t)) {
                return -1;
            }
            int grade = hall.traders.get(t).grade;
            return hall.worthOf(grade) - hall.without(t).worthOf(grade);
        }

        int open(int grade, int what) {
            if (!in(grade, 0, 3) || !in(what, 0, 3)) {
                return -1;
            }
            Deal d = hall.dealOf(grade);
            int count = 0;
            int best = 0;
            int buyer = -2;
            int seller = -2;
            for (Unit b : d.bids.subList(d.done, d.bids.size())) {
                for (Unit a : d.asks.subList(d.done, d.asks.size())) {
                    int more = b.amount() - a.amount();
                    count += more > 0 ? 1 : 0;
                    if (more > best) {
                        best = more;
                        buyer = b.trader();
                        seller = a.trader();
                    }
                }
            }
            return new int[] {count, best, buyer, seller}[what];
        }

        private static BigInteger choose(long n, long k) {
            BigInteger c = BigInteger.ONE;
            for (long i = 1; i <= k; i++) {
                c = c.multiply(BigInteger.valueOf(n - k + i)).divide(BigInteger.valueOf(i));
            }
            return c;
        }

        private static BigInteger ways(List<Unit> row, int k) {
            int last = row.get(k - 1).amount();
            long like = row.stream().filter(u -> u.amount() == last).count();
            long taken = row.subList(0, k).stream().filter(u -> u.amount() == last).count();
            return choose(like, taken);
        }

        long ties(int grade) {
            if (!in(grade, 0, 3)) {
                return -1;
            }
            Deal d = hall.dealOf(grade);
            if (d.k == 0) {
                return 1;
            }
            BigInteger all = ways(d.bids, d.k).multiply(ways(d.asks, d.k));
            return all.compareTo(BigInteger.TEN.pow(18)) > 0 ? -2 : all.longValueExact();
        }

        int under(int grade, int law, int what) {
            if (!in(grade, 0, 3) || !in(law, 0, 3) || !in(what, 0, 2)) {
                return MIN;
            }
            Deal d = hall.withLaw(law).dealOf(grade);
            return what == 0 ? d.done : what == 1 ? d.takings() : d.worth - d.doneWorth();
        }

        int feeing(int grade, int pence, int what) {
            if (!in(grade, 0, 3) || !in(pence, 0, 500) || !in(what, 0, 1)) {
                return MIN;
            }
            Deal d = hall.withFee(pence).dealOf(grade);
            return what == 0 ? d.k : d.takings();
        }

        int bestFee(int what) {
            if (!in(what, 0, 1)) {
                return -1;
            }
            int best = 0;
            int most = MIN;
            for (int pence = 0; pence <= 500; pence++) {
                Plain other = hall.withFee(pence);
                int sum = 0;
                for (int grade = 0; grade < 4; grade++) {
                    sum += other.dealOf(grade).takings();
                }
                if (sum > most) {
                    most = sum;
                    best = pence;
                }
            }
            return what == 0 ? best : most;
        }

        /** Pair by pair along the path that is worth most, as a flow over all twos. */
        int served(int what) {
            if (!in(what, 0, 2)) {
                return -1;
            }
            List<Unit> bids = new ArrayList<>();
            List<Unit> asks = new ArrayList<>();
            for (int g = 0; g < 4; g++) {
                bids.addAll(hall.rowOf(g, false));
                asks.addAll(hall.rowOf(g, true));
            }
            int[] sellerOf = new int[bids.size()];
            java.util.Arrays.fill(sellerOf, -1);
            int value = 0;
            int pairs = 0;
            while (true) {
                int more = augment(bids, asks, sellerOf);
                if (more <= 0) {
                    break;
                }
                value += more;
                pairs++;
            }
            return what == 0 ? value : what == 1 ? pairs : value - hall.worth();
        }

        private boolean mayServe(Unit bid, Unit ask) {
            return hall.traders.get(ask.trader()).grade <= hall.traders.get(bid.trader()).grade;
        }

        /** Bellman and Ford: one pair more, whoever has which seller; what it is worth. */
        private int augment(List<Unit> bids, List<Unit> asks, int[] sellerOf) {
            int b = bids.size();
            int a = asks.size();
            long[] best = new long[b + a];
            int[] from = new int[b + a];
            java.util.Arrays.fill(best, Long.MIN_VALUE);
            java.util.Arrays.fill(from, -1);
            boolean[] takenAsk = new boolean[a];
            for (int i = 0; i < b; i++) {
                if (sellerOf[i] >= 0) {
                    takenAsk[sellerOf[i]] = true;
                } else {
                    best[i] = bids.get(i).amount();
                }
            }
            boolean changed = true;
            while (changed) {
                changed = false;
                for (int i = 0; i < b; i++) {
                    for (int j = 0; j < a; j++) {
                        if (!mayServe(bids.get(i), asks.get(j))) {
                            continue;
                        }
                        if (sellerOf[i] != j && best[i] > best[b + j]) {
                            best[b + j] = best[i];
                            from[b + j] = i;
                            changed = true;
                        }
                        if (sellerOf[i] == j && best[b + j] > best[i]) {
                            best[i] = best[b + j];
                            from[i] = b + j;
                            changed = true;
                        }
                    }
                }
            }
            int end = -1;
            long most = 0;
            for (int j = 0; j < a; j++) {
                if (!takenAsk[j] && best[b + j] != Long.MIN_VALUE
                        && best[b + j] - asks.get(j).amount() > most) {
                    most = best[b + j] - asks.get(j).amount();
                    end = j;
                }
            }
            if (end < 0) {
                return 0;
            }
            int j = end;
            while (true) {
                int i = from[b + j];
                int freed = sellerOf[i];
                sellerOf[i] = j;
                if (freed < 0) {
                    return (int) most;
                }
                j = freed;
            }
        }

        long share() {
            int done = 0;
            for (int g = 0; g < 4; g++) {
                done += hall.dealOf(g).doneWorth();
            }
            int worth = hall.worth();
            return Double.doubleToLongBits(worth == 0 ? Double.NaN : (double) done / (double) worth);
        }

        int audit(int what) {
            switch (what) {
                case 0:
                    return hall.chest;
                case 1:
                    return hall.traders.stream().mapToInt(t -> t.purse).sum();
                case 2:
                    return hall.closed;
                case 3:
                    int most = hall.traders.stream().mapToInt(t -> t.purse).max().orElse(0);
                    for (int t = 0; t < hall.traders.size(); t++) {
                        if (hall.traders.get(t).purse == most) {
                            return t;
                        }
                    }
                    return -2;
                case 4:
                    return hall.takingsOfCloses.stream().mapToInt(v -> v).max().orElse(0);
                case 5:
                    return hall.takingsOfCloses.size();
                default:
                    return MIN;
            }
        }

        int entry(boolean sells, int grade) {
            if (!in(grade, 0, 3)) {
                return -1;
            }
            int now = hall.tradesOf(grade);
            for (int i = 0; i <= 9999; i++) {
                int value = sells ? 9999 - i : i;
                List<Unit> bids = hall.rowOf(grade, false);
                List<Unit> asks = hall.rowOf(grade, true);
                (sells ? asks : bids).add(new Unit(99, 0, value + (sells ? hall.fee : 0)));
                bids.sort(Comparator.comparingInt(Unit::amount).reversed());
                asks.sort(Comparator.comparingInt(Unit::amount));
                if (Plain.trades(bids, asks) == now + 1) {
                    return value;
                }
            }
            return -2;
        }

        int letter(int k) {
            if (k < -1) {
                return -1;
            }
            String text = hall.text();
            return k == -1 ? text.length() : k < text.length() ? text.charAt(k) : -2;
        }

        int match(int grade, int k, int what) {
            if (!in(grade, 0, 3)) {
                return -1;
            }
            Deal d = hall.dealOf(grade);
            if (k == -1 && what == 0) {
                return d.done;
            }
            if (!in(k, 0, d.done - 1) || !in(what, 0, 3)) {
                return -1;
            }
            Unit b = d.bids.get(k);
            Unit a = d.asks.get(k);
            return new int[] {b.trader(), b.unit(), a.trader(), a.unit()}[what];
        }

        int merged(int grade, int other, int what) {
            if (!in(grade, 0, 3) || !in(other, 0, 3) || grade == other || !in(what, 0, 2)) {
                return -1;
            }
            Plain one = hall.copy();
            for (Trader t : one.traders) {
                t.grade = t.grade == other ? grade : t.grade;
            }
            int worth = one.worthOf(grade);
            return what == 0 ? one.tradesOf(grade) : what == 1 ? worth
                    : worth - hall.worthOf(grade) - hall.worthOf(other);
        }

        int prices(int grade, int what) {
            if (!in(grade, 0, 3) || !in(what, 0, 2)) {
                return -1;
            }
            Deal d = hall.dealOf(grade);
            if (d.k == 0) {
                return -2;
            }
            List<Integer> all = new ArrayList<>();
            for (int p = 0; p <= 10499; p++) {
                boolean fits = p >= d.asks.get(d.k - 1).amount() && p <= d.bids.get(d.k - 1).amount();
                fits &= d.k >= d.bids.size() || p >= d.bids.get(d.k).amount();
                fits &= d.k >= d.asks.size() || p <= d.asks.get(d.k).amount();
                if (fits) {
                    all.add(p);
                }
            }
            return what == 0 ? all.get(0) : what == 1 ? all.get(all.size() - 1) : all.size();
        }

        int bar(int t) {
            if (!has(t)) {
                return MIN;
            }
            Trader who = hall.traders.get(t);
            int answer = -1000;
            for (int d = -500; d <= 500; d++) {
                if (hall.lying(d, t).dealOf(who.grade).doneOf(t) > 0) {
                    answer = d;
                    if (!who.sells) {
                        break;
                    }
                }
            }
            return answer;
        }

        private boolean twoOfOne(int t, int o) {
            return has(t) && has(o) && t != o
                    && hall.traders.get(t).grade == hall.traders.get(o).grade;
        }

        int helps(int t, int o) {
            if (!twoOfOne(t, o)) {
                return MIN;
            }
            int grade = hall.traders.get(t).grade;
            return hall.without(o).dealOf(grade).gain(t, hall) - hall.dealOf(grade).gain(t, hall);
        }

        private List<Integer> order(int grade) {
            Deal d = hall.dealOf(grade);
            List<Integer> all = new ArrayList<>();
            for (int t = 0; t < hall.traders.size(); t++) {
                if (hall.traders.get(t).grade == grade) {
                    all.add(t);
                }
            }
            ToIntFunction<Integer> gain = t -> -d.gain(t, hall);
            all.sort(Comparator.comparingInt(gain));
            return all;
        }

        int winner(int grade, int what) {
            if (!in(grade, 0, 3) || !in(what, 0, 2)) {
                return MIN;
            }
            Deal d = hall.dealOf(grade);
            List<Integer> order = order(grade);
            if (what == 2) {
                return (int) order.stream().filter(t -> d.gain(t, hall) > 0).count();
            }
            if (order.isEmpty()) {
                return what == 0 ? -2 : 0;
            }
            return what == 0 ? order.get(0) : d.gain(order.get(0), hall);
        }

        private int demandAt(List<Unit> bids, List<Unit> asks, int price, int what) {
            int b = (int) bids.stream().filter(u -> u.amount() >= price).count();
            int a = (int) asks.stream().filter(u -> u.amount() <= price).count();
            return what == 0 ? b : what == 1 ? a : Math.min(a, b);
        }

        int demand(int grade, int price, int what) {
            if (!in(grade, 0, 3) || !in(price, 0, 10499) || !in(what, 0, 2)) {
                return -1;
            }
            return demandAt(hall.rowOf(grade, false), hall.rowOf(grade, true), price, what);
        }

        int lively(int grade, int what) {
            if (!in(grade, 0, 3) || !in(what, 0, 2)) {
                return -1;
            }
            List<Unit> bids = hall.rowOf(grade, false);
            List<Unit> asks = hall.rowOf(grade, true);
            int most = -1;
            int least = 0;
            int greatest = 0;
            for (int p = 0; p <= 10499; p++) {
                int n = demandAt(bids, asks, p, 2);
                if (n > most) {
                    most = n;
                    least = p;
                }
                if (n == most) {
                    greatest = p;
                }
            }
            return what == 0 ? least : what == 1 ? greatest : most;
        }

        int pact(int t, int o, int what) {
            if (!twoOfOne(t, o) || !in(what, 0, 2)) {
                return MIN;
            }
            int grade = hall.traders.get(t).grade;
            IntUnaryOperator both = d -> {
                Deal deal = hall.lying(d, t, o).dealOf(grade);
                return deal.gain(t, hall) + deal.gain(o, hall);
            };
            int[] best = best(100, both);
            return what == 2 ? best[0] - both.applyAsInt(0) : best[what];
        }

        int moved(int t, int what) {
            if (!has(t) || !in(what, 0, 1)) {
                return MIN;
            }
            int own = hall.traders.get(t).grade;
            int best = -1;
            int most = MIN;
            for (int g : new int[] {own, 0, 1, 2, 3}) {
                Plain other = hall.copy();
                other.traders.get(t).grade = g;
                int gain = other.dealOf(g).gain(t, hall);
                if (gain > most) {
                    most = gain;
                    best = g;
                }
            }
            return what == 0 ? best : most;
        }

        int ranked(int grade, int k) {
            if (!in(grade, 0, 3) || k < -1) {
                return -1;
            }
            List<Integer> order = order(grade);
            return k == -1 ? order.size() : k < order.size() ? order.get(k) : -2;
        }

        int skim(int grade, int n, int what) {
            if (!in(grade, 0, 3) || !in(n, 0, 20) || !in(what, 0, 1)) {
                return -1;
            }
            Plain left = hall;
            List<Integer> order = order(grade);
            for (int t : order.subList(0, Math.min(n, order.size()))) {
                left = left.without(t);
            }
            return what == 0 ? left.tradesOf(grade) : left.worthOf(grade);
        }

        int count(int what) {
            switch (what) {
                case 0:
                    return hall.traders.size();
                case 1:
                    return hall.traders.stream().mapToInt(t -> t.says.size()).sum();
                case 2:
                    return hall.fee;
                case 3:
                    return hall.law;
                case 4:
                    return past.size();
                case 5:
                    return tape.length();
                case 6:
                    return (shelves[0] != null ? 1 : 0) + (shelves[1] != null ? 2 : 0);
                case 7:
                    int bits = 0;
                    for (int g = 0; g < 4; g++) {
                        bits += hall.tradesOf(g) > 0 ? 1 << g : 0;
                    }
                    return bits;
                case 8:
                    return hall.worth();
                default:
                    return -1;
            }
        }
    }

    // ---- the runs ----

    static final class Run {
        private static final int[] ODD = {MIN, MIN + 5, -1000, -3, -2, -1, 4, 5, 14, 20, 21, 32, 84,
            501, 10000, 10500, 65536, Integer.MAX_VALUE, Integer.MAX_VALUE - 3};

        private final int number;
        private final TradeHall hall = new TradeHall();
        private final Model model = new Model();
        private final int spread;
        private final int grades;
        private long seed;
        private String last = "";

        Run(int number) {
            this.number = number;
            seed = number * 7919L + 17;
            spread = new int[] {4, 12, 60, 700, 10000}[number % 5];
            grades = 1 + number / 5 % 4;
        }

        private int next(int bound) {
            seed = seed * 6364136223846793005L + 1442695040888963407L;
            return (int) ((seed >>> 33) % bound);
        }

        private boolean chance(int oneIn) {
            return next(oneIn) == 0;
        }

        private int odd(int usual) {
            return chance(25) ? ODD[next(ODD.length)] : usual;
        }

        private void due(long want, long got, String call, long... given) {
            asked++;
            if (got != want) {
                wrong++;
                System.out.println("run " + number + ": " + call + java.util.Arrays.toString(given)
                        + " answered " + got + ", due is " + want + "; hall: " + model.hall.text()
                        + " after " + last);
            }
            last = call + java.util.Arrays.toString(given);
        }

        void go() {
            for (int i = 0; i < 500 && wrong < 20; i++) {
                if (i % 60 == 5) {
                    tellHall();
                } else if (chance(3)) {
                    act();
                } else {
                    ask();
                }
            }
        }

        private int value() {
            // near 0, in between, near 9999
            int least = number % 3 == 0 ? 0 : number % 3 == 1 ? 3000 : 9999;
            return Math.min(least, 10000 - spread) + next(spread);
        }

        private int who() {
            return odd(next(Math.max(1, model.hall.traders.size())));
        }

        private int grade() {
            return odd(chance(6) ? next(4) : next(grades));
        }

        private void tellHall() {
            String text = someText();
            if (chance(3)) {
                text = spoil(text);
            }
            if (text.length() > 380) {
                text = text.substring(0, 380);
            }
            byte[] bytes = new byte[(text.length() + 19) / 20 * 20];
            for (int i = 0; i < text.length(); i++) {
                bytes[i] = (byte) text.charAt(i);
            }
            for (int i = 0; i < bytes.length; i += 20) {
                java.nio.ByteBuffer five = java.nio.ByteBuffer.wrap(bytes, i, 20);
                int a = five.getInt();
                int b = five.getInt();
                int c = five.getInt();
                int d = five.getInt();
                int e = five.getInt();
                due(model.feed(a, b, c, d, e), hall.feed(a, b, c, d, e), "feed", a, b, c, d, e);
            }
            due(model.end(text.length()), hall.end(text.length()), "end", text.length());
            due(model.tell(), hall.tell(), "tell of '" + text + "'");
            due(model.letter(-1), hall.letter(-1), "letter", -1);
        }

        private String someText() {
            StringBuilder text = new StringBuilder();
            int parts = next(24);
            for (int i = 0; i < parts; i++) {
                text.append(i == 0 ? "" : blank() + ";" + blank());
                if (chance(15)) {
                    text.append("fee").append(blank()).append(next(chance(4) ? 600 : 20));
                } else if (chance(12)) {
                    text.append("law ").append(List.of("cut", "middle", "less", "apart").get(next(4)));
                } else {
                    boolean sells = chance(2);
                    text.append(sells ? "seller" : "buyer").append(blank()).append(next(grades));
                    List<Integer> says = new ArrayList<>();
                    int units = next(chance(20) ? 6 : 5);
                    for (int u = 0; u < units; u++) {
                        says.add(value());
                    }
                    says.sort(sells ? Comparator.naturalOrder() : Comparator.reverseOrder());
                    says.forEach(v -> text.append(' ').append(blank()).append(v));
                }
            }
            return text.toString();
        }

        private String blank() {
            return chance(5) ? "  " : "";
        }

        private String spoil(String text) {
            int at = next(text.length() + 1);
            String rest = text.substring(Math.min(text.length(), at + next(3)));
            return text.substring(0, at) + List.of("", ";", "x", " ", "7", "99", "law", "\u00e4", "\0")
                    .get(next(9)) + (chance(4) ? "" : rest);
        }

        private void act() {
            int t = who();
            int g = grade();
            switch (next(chance(5) ? 13 : 8)) {
                case 0, 1 -> {
                    boolean sells = chance(2);
                    due(model.come(sells, g), hall.come(sells, g), "come", sells ? 1 : 0, g);
                }
                case 2, 3, 4 -> {
                    int v = odd(value());
                    due(model.add(t, v), hall.add(t, v), "add", t, v);
                }
                case 5 -> {
                    int u = odd(next(4));
                    int v = odd(value());
                    due(model.say(t, u, v), hall.say(t, u, v), "say", t, u, v);
                }
                case 6 -> due(model.law(t % 4), hall.law(t % 4), "law", t % 4);
                case 7 -> due(model.close(g), hall.close(g), "close", g);
                case 8 -> due(model.leave(t), hall.leave(t), "leave", t);
                case 9 -> {
                    int p = odd(chance(2) ? next(spread / 2 + 1) : next(501));
                    due(model.fee(p), hall.fee(p), "fee", p);
                }
                case 10 -> {
                    int times = chance(3) ? 12 : 1 + next(3);
                    for (int i = 0; i < times; i++) {
                        due(model.undo(), hall.undo(), "undo");
                    }
                }
                case 11 -> {
                    int s = odd(next(2));
                    due(model.keep(s), hall.keep(s), "keep", s);
                }
                default -> {
                    int s = odd(next(2));
                    due(model.back(s), hall.back(s), "back", s);
                }
            }
        }

        private void ask() {
            int t = who();
            int o = who();
            int g = grade();
            int h = odd(next(4));
            switch (next(30)) {
                case 0 -> {
                    int w = odd(chance(2) ? next(6) : 9 + next(6));
                    due(model.trader(t, w), hall.trader(t, w), "trader", t, w);
                }
                case 1 -> {
                    boolean asks = chance(2);
                    int k = odd(next(12) - 1);
                    int w = odd(next(4));
                    due(model.row(g, asks, k, w), hall.row(g, asks, k, w), "row", g, asks ? 1 : 0, k, w);
                }
                case 2, 3 -> {
                    int w = odd(next(9));
                    due(model.market(g, w), hall.market(g, w), "market", g, w);
                }
                case 4 -> {
                    int w = odd(next(2));
                    due(model.deal(t, w), hall.deal(t, w), "deal", t, w);
                }
                case 5 -> {
                    int d = odd(chance(2) ? next(2 * spread + 1) - spread : next(1003) - 501);
                    due(model.lie(t, d), hall.lie(t, d), "lie", t, d);
                }
                case 6 -> {
                    if (chance(4)) {
                        int w = odd(next(2));
                        due(model.tempted(t, w), hall.tempted(t, w), "tempted", t, w);
                    }
                }
                case 7 -> due(model.missed(t), hall.missed(t), "missed", t);
                case 8 -> {
                    int w = odd(next(4));
                    due(model.open(g, w), hall.open(g, w), "open", g, w);
                }
                case 9 -> due(model.ties(g), hall.ties(g), "ties", g);
                case 10 -> {
                    int w = odd(next(3));
                    due(model.under(g, h, w), hall.under(g, h, w), "under", g, h, w);
                }
                case 11 -> {
                    int p = odd(chance(2) ? next(spread) : next(501));
                    int w = odd(next(2));
                    due(model.feeing(g, p, w), hall.feeing(g, p, w), "feeing", g, p, w);
                }
                case 12 -> {
                    if (chance(6)) {
                        int w = odd(next(2));
                        due(model.bestFee(w), hall.bestFee(w), "bestFee", w);
                    }
                }
                case 13 -> {
                    int w = odd(next(3));
                    due(model.served(w), hall.served(w), "served", w);
                }
                case 14 -> due(model.share(), hall.share(), "share");
                case 15, 16 -> {
                    int w = odd(next(6));
                    due(model.audit(w), hall.audit(w), "audit", w);
                }
                case 17 -> {
                    if (chance(3)) {
                        boolean sells = chance(2);
                        due(model.entry(sells, g), hall.entry(sells, g), "entry", sells ? 1 : 0, g);
                    }
                }
                case 18 -> {
                    for (int k = -2; k < 40; k++) {
                        int at = k < 0 ? k : next(model.hall.text().length() + 3);
                        due(model.letter(at), hall.letter(at), "letter", at);
                    }
                }
                case 19 -> {
                    int k = odd(next(8) - 1);
                    int w = odd(next(4));
                    due(model.match(g, k, w), hall.match(g, k, w), "match", g, k, w);
                }
                case 20 -> {
                    int w = odd(next(3));
                    due(model.merged(g, h, w), hall.merged(g, h, w), "merged", g, h, w);
                }
                case 21 -> {
                    int w = odd(next(3));
                    due(model.prices(g, w), hall.prices(g, w), "prices", g, w);
                }
                case 22 -> {
                    if (chance(3)) {
                        due(model.bar(t), hall.bar(t), "bar", t);
                    }
                }
                case 23 -> due(model.helps(t, o), hall.helps(t, o), "helps", t, o);
                case 24 -> {
                    int w = odd(next(3));
                    due(model.winner(g, w), hall.winner(g, w), "winner", g, w);
                }
                case 25 -> {
                    int p = odd(chance(4) ? next(10500) : value());
                    int w = odd(next(3));
                    due(model.demand(g, p, w), hall.demand(g, p, w), "demand", g, p, w);
                }
                case 26 -> {
                    int w = odd(next(3));
                    due(model.lively(g, w), hall.lively(g, w), "lively", g, w);
                }
                case 27 -> {
                    if (chance(2)) {
                        int w = odd(next(3));
                        due(model.pact(t, o, w), hall.pact(t, o, w), "pact", t, o, w);
                    } else {
                        int w = odd(next(2));
                        due(model.moved(t, w), hall.moved(t, w), "moved", t, w);
                    }
                }
                case 28 -> {
                    int k = odd(next(8) - 2);
                    int n = odd(next(8));
                    int w = odd(next(2));
                    due(model.ranked(g, k), hall.ranked(g, k), "ranked", g, k);
                    due(model.skim(g, n, w), hall.skim(g, n, w), "skim", g, n, w);
                }
                default -> {
                    int w = odd(next(9));
                    due(model.count(w), hall.count(w), "count", w);
                }
            }
        }
    }
}
