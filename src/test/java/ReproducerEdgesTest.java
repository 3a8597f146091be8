/** The edges of promises 10 and 11: reproduce and gang, with their faults. */
public final class ReproducerEdgesTest {
    private static final String SIGNS = " 0123456789STUVWXYZJKLMNOPQRABCDEFGHI";

    public static void main(String[] args) {
        reproduceOfAnEmptyDeck();
        reproduceByABareBoard();
        reproduceByAFullBoard();
        reproduceFromOuterJacks();
        reproduceByOtherWires();
        reproduceTheSameSignTwice();
        reproduceTwoSigns();
        reproduceABlankIsASign();
        reproduceStopsAheadOfACard();
        reproduceToTwoHundred();
        reproduceBeyondTwoHundred();
        reproduceWithoutAnyRoom();
        reproduceNothingWithoutRoom();
        reproduceLeastFault();
        reproduceByNoBoard();
        reproduceOfNoDeck();
        reproduceIntoTheSame();
        gangOfAnEmptyDeck();
        gangWithoutAMaster();
        gangOfMastersAlone();
        gangMastersAtTheEndsOfTheirZone();
        gangAheadOfTheFirstMaster();
        gangByTheLatestMaster();
        gangByABareBoard();
        gangByAFullBoard();
        gangOnOuterColumns();
        gangByOtherWires();
        gangUponABlank();
        gangUponTheSameSign();
        gangUponAnotherSign();
        gangABlankUponASign();
        gangTwoSigns();
        gangABlankIsASign();
        gangStopsAheadOfACard();
        gangLeastFault();
        gangOfTwoHundred();
        gangByNoBoard();
        gangOfNoDeck();
        gangOnNoColumn();
        Check.end();
    }

    private static void done(CardOffice x, int cards, int answer) {
        Check.due("cards", cards, answer);
        Check.due("fault", "0 at -1", Desk.fault(x));
    }

    private static void stopped(CardOffice x, String fault, int cards, int answer) {
        Check.due("cards", cards, answer);
        Check.due("fault", fault + " at " + cards, Desk.fault(x));
    }

    private static void reproduceOfAnEmptyDeck() {
        Check.sentence("Promise 10: how many were made, of an empty deck");
        CardOffice x = Desk.officeWith(1, "1");
        Desk.wireAll(x, 0, 16, 0, 17, 0);
        done(x, 0, x.reproduce(0, 0, 1));
        Check.due("into", "1", Desk.deck(x, 1));
    }

    private static void reproduceByABareBoard() {
        Check.sentence("Promise 10: the others blank, by a bare board");
        CardOffice x = Desk.officeWith(0, "ABCDEFGHIJKLMNOP", "1");
        done(x, 2, x.reproduce(3, 0, 7));
        Check.due("into", "|", Desk.deck(x, 7));
        Check.due("cards of into", 2, x.count(7));
    }

    private static void reproduceByAFullBoard() {
        Check.sentence("Promise 10: the signs that wires bring, by a full board");
        CardOffice x = Desk.officeWith(0, "ABCDEFGHIJKLMNOP");
        for (int k = 0; k < 24; k++) {
            Desk.wireAll(x, 0, k % 16, 64 + k);
        }
        for (int column = 0; column < 16; column++) {
            Desk.wireAll(x, 0, column, 15 - column);
        }
        Check.due("wires", 40, x.count(10));
        done(x, 1, x.reproduce(0, 0, 1));
        Check.due("into", "PONMLKJIHGFEDCBA", Desk.deck(x, 1));
    }

    private static void reproduceFromOuterJacks() {
        Check.sentence("Terms: FROM 0 .. 15 the columns, 16 .. 25 the digits 0 .. 9");
        for (int from = 0; from <= 25; from++) {
            CardOffice x = Desk.officeWith(0, "ABCDEFGHIJKLMNOP");
            Desk.wireAll(x, 0, from, 0, from, 15);
            done(x, 1, x.reproduce(0, 0, 1));
            String sign = "ABCDEFGHIJKLMNOP0123456789".substring(from, from + 1);
            Check.due("from " + from, sign + "              " + sign, Desk.deck(x, 1));
        }
    }

    private static void reproduceByOtherWires() {
        Check.sentence("Promise 10: other wires do nothing");
        for (int from : new int[] {0, 16, 32, 55}) {
            for (int to : new int[] {32, 55, 64, 87, 96, 97, 98, 99}) {
                CardOffice x = Desk.officeWith(0, "12");
                Desk.wireAll(x, 0, from, to, 1, to, 33, to);
                done(x, 1, x.reproduce(0, 0, 1));
                Check.due("from " + from + " to " + to, "", Desk.deck(x, 1));
            }
        }
        CardOffice y = Desk.officeWith(0, "12");
        Desk.wireAll(y, 0, 32, 0, 55, 0, 33, 15);
        done(y, 1, y.reproduce(0, 0, 1));
        Check.due("from exits to columns", "", Desk.deck(y, 1));
        Desk.wireAll(y, 0, 1, 0);
        done(y, 1, y.reproduce(0, 0, 2));
        Check.due("from exits and a column to one column", "2", Desk.deck(y, 2));
    }

    private static void reproduceTheSameSignTwice() {
        Check.sentence("Terms: fault 2 two different signs by wires at one jack, the same sign is none");
        CardOffice x = Desk.officeWith(0, "444", "   ", "AAA");
        Desk.wireAll(x, 0, 0, 5, 1, 5, 2, 5);
        done(x, 3, x.reproduce(0, 0, 1));
        Check.due("into", "     4||     A", Desk.deck(x, 1));
    }

    private static void reproduceTwoSigns() {
        Check.sentence("Promise 10: fault 2");
        for (String text : new String[] {"12", "A1", "1A", "AJ", "KS", "09"}) {
            CardOffice x = Desk.officeWith(0, text);
            Desk.wireAll(x, 0, 0, 15, 1, 15);
            stopped(x, "2", 0, x.reproduce(0, 0, 1));
            Check.due("cards of into with " + text, 0, x.count(1));
        }
        CardOffice y = Desk.officeWith(0, "1");
        Desk.wireAll(y, 0, 16, 15, 25, 15);
        stopped(y, "2", 0, y.reproduce(0, 0, 1));
        CardOffice z = Desk.officeWith(0, "112");
        Desk.wireAll(z, 0, 0, 15, 1, 15, 2, 15);
        stopped(z, "2", 0, z.reproduce(0, 0, 1));
        CardOffice w = Desk.officeWith(0, "121");
        Desk.wireAll(w, 0, 0, 15, 1, 15, 2, 15);
        stopped(w, "2", 0, w.reproduce(0, 0, 1));
    }

    private static void reproduceABlankIsASign() {
        Check.sentence("Terms: a blank is a sign");
        for (String text : new String[] {" 0", "0 ", " A", "A "}) {
            CardOffice x = Desk.officeWith(0, text);
            Desk.wireAll(x, 0, 0, 0, 1, 0);
            stopped(x, "2", 0, x.reproduce(0, 0, 1));
        }
    }

    private static void reproduceStopsAheadOfACard() {
        Check.sentence("Terms: stops ahead of one, of which it does nothing; what was done before stays done");
        CardOffice x = Desk.officeWith(0, "11", "22", "12", "33");
        Desk.wireAll(x, 0, 0, 0, 1, 0);
        stopped(x, "2", 2, x.reproduce(0, 0, 1));
        Check.due("into", "1|2", Desk.deck(x, 1));
        Check.due("deck", "11|22|12|33", Desk.deck(x, 0));
    }

    private static CardOffice withCards(int deckZero, int all) {
        CardOffice x = Edges.officeOf(deckZero, "7");
        Edges.putMany(x, 1, all - deckZero, "8");
        Desk.wireAll(x, 0, 0, 0);
        return x;
    }

    private static void reproduceToTwoHundred() {
        Check.sentence("Promise 10: fault 4 if there would be more than 200 cards, 200 are none");
        CardOffice x = withCards(100, 100);
        done(x, 100, x.reproduce(0, 0, 1));
        Check.due("cards in all", 200, x.count(8));
        Check.due("the last one", (int) '7', x.sign(1, 99, 0));
        CardOffice y = withCards(3, 197);
        done(y, 3, y.reproduce(0, 0, 2));
        Check.due("cards in all", 200, y.count(8));
    }

    private static void reproduceBeyondTwoHundred() {
        Check.sentence("Promise 10: fault 4 if there would be more than 200 cards, 201");
        CardOffice x = withCards(3, 198);
        stopped(x, "4", 2, x.reproduce(0, 0, 2));
        Check.due("cards in all", 200, x.count(8));
        Check.due("cards of into", "7|7", Desk.deck(x, 2));
        CardOffice y = withCards(101, 101);
        stopped(y, "4", 99, y.reproduce(0, 0, 1));
        Check.due("cards in all", 200, y.count(8));
    }

    private static void reproduceWithoutAnyRoom() {
        Check.sentence("Promise 10: fault 4, with 200 cards already");
        CardOffice x = withCards(200, 200);
        stopped(x, "4", 0, x.reproduce(0, 0, 1));
        Check.due("cards of into", 0, x.count(1));
        Check.due("cards in all", 200, x.count(8));
    }

    private static void reproduceNothingWithoutRoom() {
        Check.sentence("Promise 10: fault 4, with 200 cards and an empty deck there is none");
        CardOffice x = withCards(200, 200);
        done(x, 0, x.reproduce(0, 1, 2));
    }

    private static void reproduceLeastFault() {
        Check.sentence("Promise 10: of several faults of one card the least number is told");
        CardOffice x = withCards(200, 200);
        Desk.wireAll(x, 0, 16, 0);
        stopped(x, "2", 0, x.reproduce(0, 0, 1));
    }

    private static void reproduceByNoBoard() {
        Check.sentence("Promise 10: IllegalArgumentException if there is no such board");
        CardOffice x = Desk.officeWith(0, "1");
        for (int board : Edges.NO_BOARDS) {
            Check.dueThrow("board " + board, Check.ARGUMENT, () -> x.reproduce(board, 0, 1));
        }
        Check.due("cards", 1, x.count(8));
        for (int board = 0; board < 4; board++) {
            done(x, 1, x.reproduce(board, 0, 1));
        }
    }

    private static void reproduceOfNoDeck() {
        Check.sentence("Promise 10: IllegalArgumentException if there is no such deck");
        CardOffice x = Desk.officeWith(0, "1");
        for (int deck : Edges.NO_DECKS) {
            Check.dueThrow("deck " + deck, Check.ARGUMENT, () -> x.reproduce(0, deck, 1));
            Check.dueThrow("into " + deck, Check.ARGUMENT, () -> x.reproduce(0, 0, deck));
        }
        Check.due("cards", 1, x.count(8));
    }

    private static void reproduceIntoTheSame() {
        Check.sentence("Promise 10: IllegalArgumentException if they are the same");
        CardOffice x = Desk.officeWith(0, "1");
        for (int deck = 0; deck < 8; deck++) {
            int d = deck;
            Check.dueThrow("deck " + deck, Check.ARGUMENT, () -> x.reproduce(0, d, d));
        }
        Check.due("cards", 1, x.count(8));
    }

    private static CardOffice gangOffice(String... texts) {
        CardOffice x = Desk.officeWith(0, texts);
        Desk.wireAll(x, 0, 1, 4);
        return x;
    }

    private static void gangOfAnEmptyDeck() {
        Check.sentence("Promise 11: how many cards were gone through, of an empty deck");
        CardOffice x = gangOffice();
        done(x, 0, x.gang(0, 0, 0));
    }

    private static void gangWithoutAMaster() {
        Check.sentence("Promise 11: those ahead of the first master nothing, without a master");
        CardOffice x = gangOffice("A1", "S2", "", "03");
        Desk.wireAll(x, 0, 16, 5, 25, 5);
        done(x, 4, x.gang(0, 0, 0));
        Check.due("deck", "A1|S2||03", Desk.deck(x, 0));
    }

    private static void gangOfMastersAlone() {
        Check.sentence("Promise 11: each other one gets, masters nothing");
        CardOffice x = gangOffice("K1  9", "L2", "R3");
        Desk.wireAll(x, 0, 16, 5, 25, 5);
        done(x, 3, x.gang(0, 0, 0));
        Check.due("deck", "K1  9|L2|R3", Desk.deck(x, 0));
    }

    private static void gangMastersAtTheEndsOfTheirZone() {
        Check.sentence("Promise 11: a card with a sign of zone 2 in a column is a master");
        for (String sign : SIGNS.split("")) {
            CardOffice x = gangOffice(sign + "1", "");
            done(x, 2, x.gang(0, 0, 0));
            boolean isMaster = "JKLMNOPQR".contains(sign);
            Check.due("behind " + sign, isMaster ? "    1" : "", Desk.cardAt(x, 0, 1));
        }
    }

    private static void gangAheadOfTheFirstMaster() {
        Check.sentence("Promise 11: those ahead of the first master nothing");
        CardOffice x = gangOffice(" 7  9", "", "K1", "");
        done(x, 4, x.gang(0, 0, 0));
        Check.due("deck", " 7  9||K1|    1", Desk.deck(x, 0));
    }

    private static void gangByTheLatestMaster() {
        Check.sentence("Promise 11: from the columns of the latest master");
        CardOffice x = gangOffice("J1", "", "", "R2", "K3", "", "L4");
        done(x, 7, x.gang(0, 0, 0));
        Check.due("deck", "J1|    1|    1|R2|K3|    3|L4", Desk.deck(x, 0));
        CardOffice y = Desk.officeWith(0, "K1", "", "");
        Desk.wireAll(y, 0, 0, 0, 1, 4);
        done(y, 3, y.gang(0, 0, 0));
        Check.due("a card that gets the master's sign is none in this run", "K1|K   1|K   1", Desk.deck(y, 0));
    }

    private static void gangByABareBoard() {
        Check.sentence("Promise 11: what wires bring, by a bare board");
        CardOffice x = Desk.officeWith(0, "K1", "2", "");
        done(x, 3, x.gang(3, 0, 0));
        Check.due("deck", "K1|2|", Desk.deck(x, 0));
    }

    private static void gangByAFullBoard() {
        Check.sentence("Promise 11: what wires bring, by a full board");
        CardOffice x = Desk.officeWith(0, "KBCDEFGHIJKLMNOP", "");
        for (int k = 0; k < 24; k++) {
            Desk.wireAll(x, 0, k % 16, 64 + k);
        }
        for (int column = 0; column < 16; column++) {
            Desk.wireAll(x, 0, column, 15 - column);
        }
        Check.due("wires", 40, x.count(10));
        done(x, 2, x.gang(0, 0, 0));
        Check.due("deck", "KBCDEFGHIJKLMNOP|PONMLKJIHGFEDCBK", Desk.deck(x, 0));
    }

    private static void gangOnOuterColumns() {
        Check.sentence("Promise 11: a sign of zone 2 in a column, 0 and 15");
        for (int column : new int[] {0, 15}) {
            CardOffice x = Desk.officeWith(0, "K1", "               K", "");
            Desk.wireAll(x, 0, 1, 8);
            done(x, 3, x.gang(0, 0, column));
            Check.due("the last card", column == 0 ? "        1" : "", Desk.cardAt(x, 0, 2));
        }
    }

    private static void gangByOtherWires() {
        Check.sentence("Promise 11: from columns and digits to columns, by other wires nothing");
        CardOffice x = Desk.officeWith(0, "K12", "7");
        Desk.wireAll(x, 0, 32, 0, 55, 0, 33, 15, 1, 32, 2, 32, 1, 64, 2, 64, 1, 96, 2, 99);
        done(x, 2, x.gang(0, 0, 0));
        Check.due("deck", "K12|7", Desk.deck(x, 0));
        Desk.wireAll(x, 0, 16, 14, 25, 15);
        done(x, 2, x.gang(0, 0, 0));
        Check.due("the first and the last digit", "K12|7             09", Desk.deck(x, 0));
    }

    private static void gangUponABlank() {
        Check.sentence("Promise 11: fault 1 if there is another sign and that is no blank, a blank is none");
        CardOffice x = gangOffice("K1", "");
        done(x, 2, x.gang(0, 0, 0));
        Check.due("deck", "K1|    1", Desk.deck(x, 0));
    }

    private static void gangUponTheSameSign() {
        Check.sentence("Promise 11: fault 1 if there is another sign, the same is none");
        CardOffice x = gangOffice("K1", "    1", "K", "");
        done(x, 4, x.gang(0, 0, 0));
        Check.due("deck", "K1|    1|K|", Desk.deck(x, 0));
    }

    private static void gangUponAnotherSign() {
        Check.sentence("Promise 11: fault 1 if a wire brings another sign than the one that is there");
        for (String there : new String[] {"0", "2", "A", "J", "Z"}) {
            CardOffice x = gangOffice("K1", "    " + there);
            stopped(x, "1", 1, x.gang(0, 0, 0));
            Check.due("deck", "K1|    " + there, Desk.deck(x, 0));
        }
        CardOffice y = Desk.officeWith(0, "K", "5");
        Desk.wireAll(y, 0, 20, 0);
        stopped(y, "1", 1, y.gang(0, 0, 0));
    }

    private static void gangABlankUponASign() {
        Check.sentence("Promise 11: fault 1, a blank is another sign than the one that is there");
        CardOffice x = gangOffice("K", "    1");
        stopped(x, "1", 1, x.gang(0, 0, 0));
        Check.due("deck", "K|    1", Desk.deck(x, 0));
    }

    private static void gangTwoSigns() {
        Check.sentence("Promise 11: fault 2");
        CardOffice x = Desk.officeWith(0, "K12", "");
        Desk.wireAll(x, 0, 1, 4, 2, 4);
        stopped(x, "2", 1, x.gang(0, 0, 0));
        Check.due("deck", "K12|", Desk.deck(x, 0));
        CardOffice y = Desk.officeWith(0, "K", "");
        Desk.wireAll(y, 0, 16, 4, 25, 4);
        stopped(y, "2", 1, y.gang(0, 0, 0));
        CardOffice z = Desk.officeWith(0, "K77", "");
        Desk.wireAll(z, 0, 1, 4, 2, 4, 23, 4);
        done(z, 2, z.gang(0, 0, 0));
        Check.due("one sign by three wires is none", "    7", Desk.cardAt(z, 0, 1));
    }

    private static void gangABlankIsASign() {
        Check.sentence("Terms: a blank is a sign, in gangs");
        CardOffice x = Desk.officeWith(0, "K1", "");
        Desk.wireAll(x, 0, 1, 4, 2, 4);
        stopped(x, "2", 1, x.gang(0, 0, 0));
    }

    private static void gangStopsAheadOfACard() {
        Check.sentence("Terms: of which it does nothing; what was done before stays done, in gangs");
        CardOffice x = Desk.officeWith(0, "K1", "", "     9", "");
        Desk.wireAll(x, 0, 1, 4, 1, 5);
        stopped(x, "1", 2, x.gang(0, 0, 0));
        Check.due("deck", "K1|    11|     9|", Desk.deck(x, 0));
    }

    private static void gangLeastFault() {
        Check.sentence("Promise 11: of several faults of one card the least number is told");
        for (String card : new String[] {"    1", "    2", "    3", "     3"}) {
            CardOffice x = Desk.officeWith(0, "K12", card);
            Desk.wireAll(x, 0, 1, 4, 2, 4, 1, 5);
            stopped(x, "1", 1, x.gang(0, 0, 0));
        }
        CardOffice y = Desk.officeWith(0, "K12", "     1");
        Desk.wireAll(y, 0, 1, 4, 2, 4, 1, 5);
        stopped(y, "2", 1, y.gang(0, 0, 0));
    }

    private static void gangOfTwoHundred() {
        Check.sentence("Promise 11: how many cards were gone through, 200");
        CardOffice x = gangOffice("K1");
        Edges.putMany(x, 0, 199, "");
        done(x, 200, x.gang(0, 0, 0));
        for (int i = 1; i < 200; i++) {
            Check.due("card " + i, (int) '1', x.sign(0, i, 4));
        }
    }

    private static void gangByNoBoard() {
        Check.sentence("Promise 11: IllegalArgumentException if there is no such board");
        CardOffice x = gangOffice("K1", "");
        for (int board : Edges.NO_BOARDS) {
            Check.dueThrow("board " + board, Check.ARGUMENT, () -> x.gang(board, 0, 0));
        }
        Check.due("deck", "K1|", Desk.deck(x, 0));
    }

    private static void gangOfNoDeck() {
        Check.sentence("Promise 11: IllegalArgumentException if there is no such deck");
        CardOffice x = gangOffice("K1", "");
        for (int deck : Edges.NO_DECKS) {
            Check.dueThrow("deck " + deck, Check.ARGUMENT, () -> x.gang(0, deck, 0));
        }
        Check.due("deck", "K1|", Desk.deck(x, 0));
    }

    private static void gangOnNoColumn() {
        Check.sentence("Promise 11: IllegalArgumentException if there is no such column");
        CardOffice x = gangOffice("K1", "");
        for (int column : Edges.NO_COLUMNS) {
            Check.dueThrow("column " + column, Check.ARGUMENT, () -> x.gang(0, 0, column));
            Check.dueThrow("of an empty deck, column " + column, Check.ARGUMENT, () -> x.gang(0, 1, column));
        }
        Check.due("deck", "K1|", Desk.deck(x, 0));
    }
}
