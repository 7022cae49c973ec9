/** The examples of README.md, with the answers that it tells. */
public final class TradeHallReadme extends Checks {
    public static void main(String[] args) {
        byCalls();
        byText();
        finish();
    }

    private static void byCalls() {
        TradeHall hall = new TradeHall();
        int buyer = hall.come(false, 0);
        int seller = hall.come(true, 0);
        due("come of the buyer", buyer, 0);
        due("come of the seller", seller, 1);
        due("add of the buyer", hall.add(buyer, 90), 1);
        due("add of the seller", hall.add(seller, 40), 1);
        due("law", hall.law(1), 0);
        due("market", hall.market(0, 3), 65);
        due("deal", hall.deal(buyer, 1), 25);
        due("close", hall.close(0), 1);
        due("trader", hall.trader(seller, 3), 65);
        due("undo", hall.undo(), 5);
    }

    private static void byText() {
        String text = "buyer 0 90 70;seller 0 20 40;law less";
        TradeHall hall = new TradeHall();
        due("tell", tell(hall, text), 2);
        StringBuilder letters = new StringBuilder();
        for (int k = 0; k < hall.letter(TradeHall.NONE); k++) {
            letters.append((char) hall.letter(k));
        }
        dueSame("letter", letters.toString(), text);
        due("tell of a fault", tell(hall, "buyer 0 90 95"), -2 - (8 * 11 + 2));
    }

    private static int tell(TradeHall hall, String text) {
        for (int i = 0; i < text.length(); i += 20) {
            int[] five = new int[5];
            for (int j = 0; j < 20; j++) {
                int letter = i + j < text.length() ? text.charAt(i + j) : ' ';
                five[j / 4] = five[j / 4] << 8 | letter;
            }
            hall.feed(five[0], five[1], five[2], five[3], five[4]);
        }
        hall.end(text.length());
        return hall.tell();
    }
}
