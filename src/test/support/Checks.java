/** What the tests that were worked out by hand share. */
public class Checks {
    static final int MIN = Integer.MIN_VALUE;
    static final int MAX = Integer.MAX_VALUE;

    static int wrong = 0;
    static int promise = 0;

    /** Tells how it went, and ends with exit code 1 if an answer was not as due. */
    static void finish() {
        System.out.println(wrong == 0 ? "all promises hold" : wrong + " answers are not as due");
        if (wrong != 0) {
            System.exit(1);
        }
    }

    static void due(String call, long got, long want) {
        if (got != want) {
            wrong++;
            System.out.println("promise " + promise + ": " + call + " answered " + got
                    + ", due is " + want);
        }
    }

    /** Any answer but that of a refusal. */
    static void dueOther(String call, long got, long refusal) {
        if (got == refusal) {
            wrong++;
            System.out.println("promise " + promise + ": " + call + " answered " + got
                    + ", as if it were to be refused");
        }
    }

    static void dueText(String call, TradeHall x, String want) {
        dueSame(call, text(x), want);
    }

    static void dueSame(String call, String got, String want) {
        if (!got.equals(want)) {
            wrong++;
            System.out.println("promise " + promise + ": " + call + " left '" + got
                    + "', due is '" + want + "'");
        }
    }

    /** The text comes behind the tape: fed by twenty, and ended where it ends. */
    static void put(TradeHall x, String text) {
        int before = x.count(5);
        for (int i = 0; i < text.length(); i += 20) {
            int[] five = new int[5];
            for (int j = 0; j < 20; j++) {
                int c = i + j < text.length() ? text.charAt(i + j) : 255;
                five[j / 4] = five[j / 4] << 8 | c;
            }
            x.feed(five[0], five[1], five[2], five[3], five[4]);
        }
        x.end(before + text.length());
    }

    static TradeHall told(String text) {
        TradeHall x = new TradeHall();
        put(x, text);
        int answer = x.tell();
        if (answer < 0) {
            due("tell of " + text, answer, 0);
        }
        return x;
    }

    /** The fault of that kind at that place; it leaves all but the tape as it was. */
    static void dueFault(String text, int place, int kind) {
        TradeHall x = told("buyer 1 5");
        put(x, text);
        due("tell of '" + text + "'", x.tell(), -2 - (8 * place + kind));
        due("bytes after the fault", x.count(5), 0);
        dueText("a fault", x, "buyer 1 5");
    }

    static String text(TradeHall x) {
        StringBuilder text = new StringBuilder();
        for (int k = 0; k < x.letter(-1); k++) {
            text.append((char) x.letter(k));
        }
        return text.toString();
    }

    /** All that can be told of an object without an act. */
    static String all(TradeHall x) {
        StringBuilder all = new StringBuilder(text(x));
        for (int t = 0; t < x.count(0); t++) {
            all.append(" | ").append(t).append(": ").append(x.trader(t, 3))
                    .append(' ').append(x.trader(t, 4)).append(' ').append(x.trader(t, 5));
        }
        for (int what = 0; what <= 5; what++) {
            all.append(what == 0 ? " | audit: " : " ").append(x.audit(what));
        }
        for (int what = 0; what <= 8; what++) {
            all.append(what == 0 ? " | count: " : " ").append(x.count(what));
        }
        return all.toString();
    }
}
