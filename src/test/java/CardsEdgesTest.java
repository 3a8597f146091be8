/** The edges of promises 2, 14, 15 and 20: card, cut, sign, count. */
public final class CardsEdgesTest {
    private static final long BLANKS = 0x2020202020202020L;
    private static final int[] SIGNS_AT_EDGES = {32, 48, 57, 65, 90};
    private static final int[] NO_SIGNS = {0, 1, 31, 33, 47, 58, 64, 91, 97, 122, 127, 128, 160, 176, 193, 255};

    public static void main(String[] args) {
        highestByteFirst();
        toTheEndOfADeck();
        cardOfNoDeck();
        cardWithOuterSigns();
        cardWithNoSign();
        cardOfOuterLongs();
        twoHundredInOneDeck();
        twoHundredOverAllDecks();
        cutNone();
        cutAll();
        cutOneTooMany();
        cutOfAnEmptyDeck();
        cutLessThanNone();
        cutTwoHundred();
        cutOfNoDeck();
        cutIntoTheSame();
        signAtOuterPlaces();
        signOfNoDeck();
        signOfNoCard();
        signOfNoColumn();
        countOfDecksAndAll();
        countOfLines();
        countOfWires();
        countOfPasses();
        countOfBrought();
        countOfNothing();
        Check.end();
    }

    private static void highestByteFirst() {
        Check.sentence("Promise 2: its columns are the bytes of two longs, the highest first");
        for (int column = 0; column < 16; column++) {
            CardOffice x = new CardOffice();
            long other = BLANKS + ((long) ('Z' - ' ') << 8 * (7 - column % 8));
            Check.due("card", true, x.card(0, column < 8 ? other : BLANKS, column < 8 ? BLANKS : other));
            for (int c = 0; c < 16; c++) {
                Check.due("column " + c, c == column ? 90 : 32, x.sign(0, 0, c));
            }
        }
    }

    private static void toTheEndOfADeck() {
        Check.sentence("Promise 2: a card comes to the end of a deck");
        for (int deck = 0; deck < 8; deck++) {
            CardOffice x = Desk.officeWith(deck, "1", "3", "2");
            Check.due("deck " + deck, "1|3|2", Desk.deck(x, deck));
            Check.due("no other deck has any", 3, x.count(8));
        }
    }

    private static void cardOfNoDeck() {
        Check.sentence("Promise 2: false if there is no such deck");
        CardOffice x = new CardOffice();
        for (int deck : Edges.NO_DECKS) {
            Check.due("deck " + deck, false, x.card(deck, BLANKS, BLANKS));
        }
        Check.due("cards", 0, x.count(8));
        Check.due("the first deck", true, x.card(0, BLANKS, BLANKS));
        Check.due("the last deck", true, x.card(7, BLANKS, BLANKS));
    }

    private static long withByte(int code, int column) {
        int shift = 8 * (7 - column % 8);
        return BLANKS & ~(255L << shift) | (long) code << shift;
    }

    private static boolean putByte(CardOffice x, int code, int column) {
        long half = withByte(code, column);
        return x.card(0, column < 8 ? half : BLANKS, column < 8 ? BLANKS : half);
    }

    private static void cardWithOuterSigns() {
        Check.sentence("Terms: signs are 32, 48 .. 57, 65 .. 90");
        for (int code : SIGNS_AT_EDGES) {
            CardOffice x = new CardOffice();
            for (int column = 0; column < 16; column++) {
                Check.due("byte " + code + " in column " + column, true, putByte(x, code, column));
                Check.due("sign", code, x.sign(0, column, column));
            }
        }
    }

    private static void cardWithNoSign() {
        Check.sentence("Promise 2: false if a byte is no sign");
        for (int code : NO_SIGNS) {
            CardOffice x = new CardOffice();
            for (int column = 0; column < 16; column++) {
                Check.due("byte " + code + " in column " + column, false, putByte(x, code, column));
            }
            Check.due("cards", 0, x.count(8));
        }
    }

    private static void cardOfOuterLongs() {
        Check.sentence("Promise 2: the least and the greatest longs");
        CardOffice x = new CardOffice();
        for (long bytes : new long[] {Long.MIN_VALUE, Long.MAX_VALUE, 0, -1, 1, BLANKS - 1, BLANKS + 1, BLANKS | Long.MIN_VALUE}) {
            Check.due("first " + bytes, false, x.card(0, bytes, BLANKS));
            Check.due("last " + bytes, false, x.card(0, BLANKS, bytes));
            Check.due("both " + bytes, false, x.card(0, bytes, bytes));
        }
        Check.due("cards", 0, x.count(8));
        Check.due("the least that is a card", true, x.card(0, BLANKS, BLANKS));
        Check.due("the greatest that is a card", true, x.card(0, 0x5A5A5A5A5A5A5A5AL, 0x5A5A5A5A5A5A5A5AL));
        Check.due("deck", "|ZZZZZZZZZZZZZZZZ", Desk.deck(x, 0));
    }

    private static void twoHundredInOneDeck() {
        Check.sentence("Promise 2: false if there are 200 cards");
        CardOffice x = Edges.officeOf(199, "7");
        Check.due("the last one that is taken", true, Desk.put(x, 0, "8"));
        Check.due("the first one that is refused", false, Desk.put(x, 0, "9"));
        Check.due("another deck has no room", false, Desk.put(x, 1, "9"));
        Check.due("cards of the deck", 200, x.count(0));
        Check.due("cards in all", 200, x.count(8));
        Check.due("the last one", (int) '8', x.sign(0, 199, 0));
    }

    private static void twoHundredOverAllDecks() {
        Check.sentence("Terms: 200 cards at most in all");
        CardOffice x = new CardOffice();
        for (int deck = 0; deck < 8; deck++) {
            Edges.putMany(x, deck, 25, "" + deck);
        }
        for (int deck = 0; deck < 8; deck++) {
            Check.due("one more in deck " + deck, false, Desk.put(x, deck, "9"));
            Check.due("cards of deck " + deck, 25, x.count(deck));
        }
        Check.due("cards in all", 200, x.count(8));
    }

    private static CardOffice threeAndOne() {
        CardOffice x = Desk.officeWith(0, "A", "B", "C");
        Desk.putAll(x, 7, "1");
        return x;
    }

    private static void cutNone() {
        Check.sentence("Promise 14: the first n cards, n = 0");
        CardOffice x = threeAndOne();
        Check.due("cut", true, x.cut(0, 0, 7));
        Check.due("decks", "A|B|C and 1", Desk.deck(x, 0) + " and " + Desk.deck(x, 7));
    }

    private static void cutAll() {
        Check.sentence("Promise 14: the first n cards, n = all");
        CardOffice x = threeAndOne();
        Check.due("cut", true, x.cut(0, 3, 7));
        Check.due("decks", " and 1|A|B|C", Desk.deck(x, 0) + " and " + Desk.deck(x, 7));
        Check.due("back", true, x.cut(7, 4, 0));
        Check.due("decks", "1|A|B|C and ", Desk.deck(x, 0) + " and " + Desk.deck(x, 7));
    }

    private static void cutOneTooMany() {
        Check.sentence("Promise 14: false if it has less");
        CardOffice x = threeAndOne();
        for (int n : new int[] {4, 5, 200, 201, 1 << 8, 1 << 16, Edges.GREATEST}) {
            Check.due("cut " + n, false, x.cut(0, n, 7));
        }
        Check.due("decks", "A|B|C and 1", Desk.deck(x, 0) + " and " + Desk.deck(x, 7));
    }

    private static void cutOfAnEmptyDeck() {
        Check.sentence("Promise 14: false if it has less, an empty deck");
        CardOffice x = threeAndOne();
        Check.due("none", true, x.cut(3, 0, 7));
        Check.due("one", false, x.cut(3, 1, 7));
        Check.due("into", "1", Desk.deck(x, 7));
    }

    /** The document refuses a cut if the deck has less than n cards, and no deck has less than -1. */
    private static void cutLessThanNone() {
        Check.sentence("Promise 14: the first n cards, n < 0");
        CardOffice x = threeAndOne();
        for (int n : new int[] {-1, -3, -200, Edges.LEAST, Edges.LEAST + 1}) {
            Check.due("cut " + n, true, x.cut(0, n, 7));
            Check.due("of an empty deck", true, x.cut(1, n, 7));
        }
        Check.due("decks", "A|B|C and 1", Desk.deck(x, 0) + " and " + Desk.deck(x, 7));
    }

    private static void cutTwoHundred() {
        Check.sentence("Promise 14: the first n cards, n = 200");
        CardOffice x = Edges.officeOf(199, "1");
        Desk.putAll(x, 0, "2");
        Check.due("one more than there are", false, x.cut(0, 201, 1));
        Check.due("all", true, x.cut(0, 200, 1));
        Check.due("cards of the deck", 0, x.count(0));
        Check.due("cards of the other", 200, x.count(1));
        Check.due("the last one", (int) '2', x.sign(1, 199, 0));
        Check.due("all but one", true, x.cut(1, 199, 2));
        Check.due("that one", "2", Desk.deck(x, 1));
    }

    private static void cutOfNoDeck() {
        Check.sentence("Promise 14: false if there are no such decks");
        CardOffice x = threeAndOne();
        for (int deck : Edges.NO_DECKS) {
            Check.due("from deck " + deck, false, x.cut(deck, 0, 7));
            Check.due("into deck " + deck, false, x.cut(0, 1, deck));
            Check.due("both " + deck, false, x.cut(deck, 0, deck));
        }
        Check.due("decks", "A|B|C and 1", Desk.deck(x, 0) + " and " + Desk.deck(x, 7));
    }

    private static void cutIntoTheSame() {
        Check.sentence("Promise 14: false if they are the same");
        CardOffice x = threeAndOne();
        for (int deck = 0; deck < 8; deck++) {
            Check.due("none of deck " + deck, false, x.cut(deck, 0, deck));
            Check.due("one of deck " + deck, false, x.cut(deck, 1, deck));
        }
        Check.due("decks", "A|B|C and 1", Desk.deck(x, 0) + " and " + Desk.deck(x, 7));
    }

    private static void signAtOuterPlaces() {
        Check.sentence("Promise 15: the sign in a column of card i of a deck");
        for (int deck : new int[] {0, 7}) {
            CardOffice x = Desk.officeWith(deck, "A              B", "C", "Y              Z");
            Check.due("first card, first column", (int) 'A', x.sign(deck, 0, 0));
            Check.due("first card, last column", (int) 'B', x.sign(deck, 0, 15));
            Check.due("last card, first column", (int) 'Y', x.sign(deck, 2, 0));
            Check.due("last card, last column", (int) 'Z', x.sign(deck, 2, 15));
        }
    }

    private static void signOfNoDeck() {
        Check.sentence("Promise 15: IndexOutOfBoundsException if there is none such, the deck");
        CardOffice x = threeAndOne();
        for (int deck : Edges.NO_DECKS) {
            Check.dueThrow("deck " + deck, Check.INDEX, () -> x.sign(deck, 0, 0));
        }
    }

    private static void signOfNoCard() {
        Check.sentence("Promise 15: IndexOutOfBoundsException if there is none such, the card");
        CardOffice x = threeAndOne();
        for (int i : Edges.noneOf(3)) {
            Check.dueThrow("card " + i, Check.INDEX, () -> x.sign(0, i, 0));
        }
        Check.dueThrow("of an empty deck", Check.INDEX, () -> x.sign(1, 0, 0));
        x.cut(0, 1, 1);
        Check.dueThrow("one that was cut off", Check.INDEX, () -> x.sign(0, 2, 0));
        x.merge(7, 1, 0, 0);
        Check.dueThrow("one that was merged away", Check.INDEX, () -> x.sign(1, 0, 0));

        CardOffice full = Edges.officeOf(200, "7");
        Check.due("the last of 200", (int) '7', full.sign(0, 199, 0));
        Check.dueThrow("the one behind it", Check.INDEX, () -> full.sign(0, 200, 0));
    }

    private static void signOfNoColumn() {
        Check.sentence("Promise 15: IndexOutOfBoundsException if there is none such, the column");
        CardOffice x = threeAndOne();
        for (int column : Edges.NO_COLUMNS) {
            Check.dueThrow("column " + column, Check.INDEX, () -> x.sign(0, 0, column));
        }
    }

    private static void countOfDecksAndAll() {
        Check.sentence("Promise 20: 0 .. 7 cards of that deck, 8 cards in all");
        for (int deck = 0; deck < 8; deck++) {
            CardOffice x = Desk.officeWith(deck, "1", "2");
            for (int what = 0; what < 8; what++) {
                Check.due("cards of deck " + what, what == deck ? 2 : 0, x.count(what));
            }
            Check.due("cards in all", 2, x.count(8));
        }
        Check.due("a full deck", 200, Edges.officeOf(200, "").count(0));
        Check.due("all cards", 200, Edges.officeOf(200, "").count(8));
    }

    private static void countOfLines() {
        Check.sentence("Promise 20: 9 lines of the paper");
        CardOffice x = new CardOffice();
        Check.due("none", 0, x.count(9));
        Edges.printBlankLines(x, 100);
        Check.due("a full paper", 100, x.count(9));
        x.tear();
        Check.due("none again", 0, x.count(9));
    }

    private static void countOfWires() {
        Check.sentence("Promise 20: 10 .. 13 wires of board what - 10");
        for (int board = 0; board < 4; board++) {
            CardOffice x = new CardOffice();
            for (int k = 0; k < 40; k++) {
                Desk.wireAll(x, board, k % 16, 32 + k / 2);
            }
            for (int what = 10; what <= 13; what++) {
                Check.due("wires, what " + what, what - 10 == board ? 40 : 0, x.count(what));
            }
            x.strip(board);
            Check.due("wires of a bare board", 0, x.count(10 + board));
        }
    }

    private static void countOfPasses() {
        Check.sentence("Promise 20: 14 passes of the sorter so far");
        CardOffice x = Desk.officeWith(0, "2", "A", "1");
        Check.dueThrow("a pass that throws", Check.ARGUMENT, () -> x.pass(0, 16, true));
        Check.dueThrow("a sort that throws", Check.ARGUMENT, () -> x.sort(0, 0, 16));
        Check.due("none", 0, x.count(14));
        x.pass(0, 0, true);
        Check.due("one", 1, x.count(14));
        x.sort(0, 0, 0);
        Check.due("two more", 3, x.count(14));
        x.sort(0, 0, 0);
        Check.due("none more, it is sorted", 3, x.count(14));
        x.merge(0, 1, 0, 0);
        x.cut(0, 1, 1);
        Check.due("none more by other machines", 3, x.count(14));
    }

    private static void countOfBrought() {
        Check.sentence("Promise 20: 15 cards that the collator brought into another deck so far");
        CardOffice x = Desk.officeWith(0, "1", "2", "3");
        Desk.putAll(x, 1, "2", "4");
        Check.due("none", 0, x.count(15));
        x.cut(0, 0, 1);
        x.reproduce(0, 0, 5);
        x.cut(5, 1, 6);
        Check.due("none by other calls", 0, x.count(15));
        Check.dueThrow("a merge that throws", Check.ARGUMENT, () -> x.merge(0, 0, 0, 0));
        Check.due("none", 0, x.count(15));
        x.match(0, 1, 2, 0, 0);
        Check.due("those of both decks that were alike", 2, x.count(15));
        x.merge(0, 1, 0, 0);
        Check.due("that of the other deck, not its own", 3, x.count(15));
        x.merge(0, 1, 0, 0);
        Check.due("none of an empty deck", 3, x.count(15));
    }

    private static void countOfNothing() {
        Check.sentence("Promise 20: NONE for another what");
        CardOffice x = threeAndOne();
        for (int what : Edges.noneOf(16)) {
            Check.due("count " + what, CardOffice.NONE, x.count(what));
        }
        for (int k = 0; k < 4; k++) {
            Check.due("one that wraps to a board", CardOffice.NONE, x.count(Edges.LEAST + 10 + k));
            Check.due("one that wraps to a board", CardOffice.NONE, x.count(Edges.GREATEST - k));
        }
    }
}
