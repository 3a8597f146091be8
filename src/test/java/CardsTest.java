/** Promises 2, 14, 15 and 20: card, cut, sign, count. */
public final class CardsTest {
    private static final int MIN = Integer.MIN_VALUE;
    private static final int MAX = Integer.MAX_VALUE;

    public static void main(String[] args) {
        bytesAreColumns();
        everyByte();
        wrongDecks();
        twoHundredCards();
        cutMovesTheFirst();
        cutRefused();
        signRefused();
        countsOfCards();
        countRefused();
        Check.end();
    }

    private static void bytesAreColumns() {
        CardOffice x = Desk.officeWith(7, "0123456789ABCDEF", "GHIJKLMNOPQRSTUV", "WXYZ   9       Z");
        Check.due("deck", "0123456789ABCDEF|GHIJKLMNOPQRSTUV|WXYZ   9       Z", Desk.deck(x, 7));
        Check.due("first column", (int) '0', x.sign(7, 0, 0));
        Check.due("column 7", (int) '7', x.sign(7, 0, 7));
        Check.due("column 8", (int) '8', x.sign(7, 0, 8));
        Check.due("last column", (int) 'F', x.sign(7, 0, 15));
        Check.due("a blank", 32, x.sign(7, 2, 4));
    }

    private static void everyByte() {
        for (int code = 0; code < 256; code++) {
            boolean isSign = " 0123456789ABCDEFGHIJKLMNOPQRSTUVWXYZ".indexOf(code) >= 0;
            for (int column = 0; column < 16; column++) {
                CardOffice x = new CardOffice();
                StringBuilder text = new StringBuilder("                ");
                text.setCharAt(column, (char) code);
                Check.due("byte " + code + " in column " + column, isSign, Desk.put(x, 0, text.toString()));
                Check.due("cards with byte " + code, isSign ? 1 : 0, x.count(8));
            }
        }
    }

    private static void wrongDecks() {
        CardOffice x = new CardOffice();
        for (int deck : new int[] {-1, 8, MIN, MAX}) {
            Check.due("deck " + deck, false, Desk.put(x, deck, "1"));
        }
        Check.due("cards", 0, x.count(8));
    }

    private static void twoHundredCards() {
        CardOffice x = new CardOffice();
        for (int k = 0; k < 200; k++) {
            Check.due("card " + k, true, Desk.put(x, k % 8, "" + k));
        }
        Check.due("card 200", false, Desk.put(x, 0, "200"));
        Check.due("card 200 of another deck", false, Desk.put(x, 5, "200"));
        Check.due("cards", 200, x.count(8));
        Check.due("cards of deck 0", 25, x.count(0));

        CardOffice y = new CardOffice();
        for (int k = 0; k < 200; k++) {
            Check.due("card " + k, true, Desk.put(y, 3, "" + k));
        }
        Check.due("card 200", false, Desk.put(y, 3, "200"));
        Check.due("last one", "199", Desk.cardAt(y, 3, 199));
        Check.due("all are cut", true, y.cut(3, 200, 4));
        Check.due("last one", "199", Desk.cardAt(y, 4, 199));
        Check.due("card 200", false, Desk.put(y, 3, "200"));
    }

    private static void cutMovesTheFirst() {
        CardOffice x = Desk.officeWith(0, "A", "B", "C");
        Desk.putAll(x, 1, "1");
        Check.due("cut 2", true, x.cut(0, 2, 1));
        Check.due("deck", "C", Desk.deck(x, 0));
        Check.due("into", "1|A|B", Desk.deck(x, 1));
        Check.due("cut 0", true, x.cut(0, 0, 1));
        Check.due("cut a negative number", true, x.cut(0, -1, 1));
        Check.due("cut the least number", true, x.cut(0, MIN, 1));
        Check.due("deck", "C", Desk.deck(x, 0));
        Check.due("into", "1|A|B", Desk.deck(x, 1));
        Check.due("cut all", true, x.cut(1, 3, 0));
        Check.due("deck", "", Desk.deck(x, 1));
        Check.due("into", "C|1|A|B", Desk.deck(x, 0));
        Check.due("the collator brought none", 0, x.count(15));
    }

    private static void cutRefused() {
        CardOffice x = Desk.officeWith(0, "A", "B");
        Check.due("too many", false, x.cut(0, 3, 1));
        Check.due("the most", false, x.cut(0, MAX, 1));
        Check.due("the same", false, x.cut(0, 1, 0));
        Check.due("none of the same", false, x.cut(0, 0, 0));
        for (int deck : new int[] {-1, 8, MIN, MAX}) {
            Check.due("from deck " + deck, false, x.cut(deck, 0, 1));
            Check.due("into deck " + deck, false, x.cut(0, 1, deck));
        }
        Check.due("deck", "A|B", Desk.deck(x, 0));
        Check.due("cards", 2, x.count(8));
    }

    private static void signRefused() {
        CardOffice x = Desk.officeWith(2, "A", "B");
        for (int deck : new int[] {-1, 8, MIN, MAX, 1}) {
            Check.dueThrow("sign of deck " + deck, Check.INDEX, () -> x.sign(deck, 0, 0));
        }
        for (int i : new int[] {-1, 2, 200, MIN, MAX}) {
            Check.dueThrow("sign of card " + i, Check.INDEX, () -> x.sign(2, i, 0));
        }
        for (int column : new int[] {-1, 16, MIN, MAX}) {
            Check.dueThrow("sign in column " + column, Check.INDEX, () -> x.sign(2, 0, column));
        }
        x.cut(2, 1, 3);
        Check.dueThrow("sign of a card that was cut", Check.INDEX, () -> x.sign(2, 1, 0));
    }

    private static void countsOfCards() {
        CardOffice x = new CardOffice();
        for (int deck = 0; deck < 8; deck++) {
            for (int k = 0; k <= deck; k++) {
                Desk.putAll(x, deck, "" + k);
            }
        }
        for (int deck = 0; deck < 8; deck++) {
            Check.due("cards of deck " + deck, deck + 1, x.count(deck));
        }
        Check.due("cards in all", 36, x.count(8));
        for (int board = 0; board < 4; board++) {
            for (int k = 0; k < 2 * board + 1; k++) {
                Desk.wireAll(x, board, k, 32);
            }
        }
        for (int board = 0; board < 4; board++) {
            Check.due("wires of board " + board, 2 * board + 1, x.count(10 + board));
        }
    }

    private static void countRefused() {
        CardOffice x = Desk.officeWith(0, "1");
        for (int what : new int[] {-1, 16, 17, -8, MIN, MIN + 10, MAX}) {
            Check.due("count " + what, CardOffice.NONE, x.count(what));
        }
    }
}
