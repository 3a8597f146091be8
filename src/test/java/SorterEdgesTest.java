/** The edges of promises 6 and 7, and of the terms that they use: digits, zones, fields, sorted decks. */
public final class SorterEdgesTest {
    private static final String IN_ORDER = " 0123456789STUVWXYZJKLMNOPQRABCDEFGHI";

    public static void main(String[] args) {
        digitsAtTheirEnds();
        zonesAtTheirEnds();
        signsInOrder();
        noneAheadOfZero();
        passOfAnEmptyDeck();
        passOfOneCard();
        passWithAllPockets();
        passKeepsTheOrder();
        passOfTwoHundred();
        passOnOuterColumns();
        passOfNoDeck();
        passOnNoColumn();
        sortOfAnEmptyDeck();
        sortOfOneCard();
        sortOfCardsAlike();
        sortOfASortedDeck();
        sortOfTheLeastUpset();
        sortOnOuterFields();
        keysFromTheFirstOn();
        sortKeepsTheOrder();
        sortWithoutZones();
        sortWithAZoneBesideTheField();
        sortWithOneZone();
        sortWithTheMostPasses();
        sortOfTwoHundred();
        sortOfNoDeck();
        sortOnNoField();
        Check.end();
    }

    private static String passed(boolean zones, String... texts) {
        CardOffice x = Desk.officeWith(0, texts);
        x.pass(0, 0, zones);
        return Desk.deck(x, 0);
    }

    private static void digitsAtTheirEnds() {
        Check.sentence("Terms: a sign's digit: 1 to 9 of A to I, 1 to 9 of J to R, 2 to 9 of S to Z");
        Check.due("A, J and 1", "A|J|1|B|K|S|2", passed(false, "B", "K", "S", "2", "A", "J", "1"));
        Check.due("I, R, Z and 9", "H|Q|Y|8|I|R|Z|9", passed(false, "I", "R", "Z", "9", "H", "Q", "Y", "8"));
    }

    private static void zonesAtTheirEnds() {
        Check.sentence("Terms: its zone: 0 of a blank and 0 .. 9, 1 of S to Z, 2 of J to R, 3 of A to I");
        Check.due("deck", "9||0|S|Z|J|R|A|I", passed(true, "A", "J", "S", "9", "I", "R", "Z", "", "0"));
    }

    private static void signsInOrder() {
        Check.sentence("Terms: signs are ordered by zones, those of one zone by digits");
        for (int k = 1; k < IN_ORDER.length(); k++) {
            String less = IN_ORDER.substring(k - 1, k);
            String more = IN_ORDER.substring(k, k + 1);
            CardOffice x = Desk.officeWith(0, less, more);
            Check.due(less + " ahead of " + more + " is sorted", 0, x.sort(0, 0, 0));
            CardOffice y = Desk.officeWith(0, more, less);
            Check.dueThrow(more + " ahead of " + less + " is not", Check.STATE, () -> y.merge(0, 1, 0, 0));
        }
    }

    private static void noneAheadOfZero() {
        Check.sentence("Terms: no digit is ahead of 0");
        Check.due("a pass", "|0|1", passed(false, "1", "0", ""));
        CardOffice x = Desk.officeWith(0, "0", "");
        Check.due("sort", 1, x.sort(0, 0, 0));
        Check.due("deck", "|0", Desk.deck(x, 0));
    }

    private static void passOfAnEmptyDeck() {
        Check.sentence("Promise 6: how many pockets had cards, of an empty deck");
        CardOffice x = new CardOffice();
        Check.due("by digits", 0, x.pass(0, 0, false));
        Check.due("by zones", 0, x.pass(7, 15, true));
        Check.due("cards", 0, x.count(8));
        Check.due("they were passes", 2, x.count(14));
    }

    private static void passOfOneCard() {
        Check.sentence("Promise 6: how many pockets had cards, of one card");
        for (String sign : IN_ORDER.split("")) {
            CardOffice x = Desk.officeWith(0, sign);
            Check.due("by digits, " + sign, 1, x.pass(0, 0, false));
            Check.due("by zones, " + sign, 1, x.pass(0, 0, true));
            Check.due("cards", 1, x.count(0));
        }
    }

    private static void passWithAllPockets() {
        Check.sentence("Promise 6: how many pockets had cards, all");
        CardOffice x = Desk.officeWith(0, "9", "8", "7", "6", "5", "4", "3", "2", "1", "0", "");
        Check.due("by digits", 11, x.pass(0, 0, false));
        Check.due("deck", "|0|1|2|3|4|5|6|7|8|9", Desk.deck(x, 0));
        CardOffice y = Desk.officeWith(0, "A", "J", "S", "1");
        Check.due("by zones", 4, y.pass(0, 0, true));
        Check.due("deck", "1|S|J|A", Desk.deck(y, 0));
    }

    private static void passKeepsTheOrder() {
        Check.sentence("Promise 6: those alike in the order that they had");
        Check.due("by digits", "A9|J8|17|B9|K8|S7|26", passed(false, "B9", "A9", "K8", "J8", "S7", "17", "26"));
        Check.due("by zones", "9A|1B|ZA|SB|RA|JB|IA|AB", passed(true, "IA", "AB", "RA", "JB", "ZA", "SB", "9A", "1B"));
    }

    private static void passOfTwoHundred() {
        Check.sentence("Promise 6: the cards of a deck, 200");
        CardOffice x = Edges.officeOf(199, "3");
        Desk.putAll(x, 0, "2");
        Check.due("pockets", 2, x.pass(0, 0, false));
        Check.due("cards", 200, x.count(0));
        Check.due("the last one came first", (int) '2', x.sign(0, 0, 0));
        for (int i = 1; i < 200; i++) {
            Check.due("card " + i, (int) '3', x.sign(0, i, 0));
        }
    }

    private static void passOnOuterColumns() {
        Check.sentence("Promise 6: by a column, 0 and 15");
        CardOffice x = Desk.officeWith(7, "1              2", "2              1");
        x.pass(7, 15, false);
        Check.due("column 15", "2              1|1              2", Desk.deck(x, 7));
        x.pass(7, 0, false);
        Check.due("column 0", "1              2|2              1", Desk.deck(x, 7));
    }

    private static void passOfNoDeck() {
        Check.sentence("Promise 6: IllegalArgumentException if there is no such deck");
        CardOffice x = Desk.officeWith(0, "2", "1");
        for (int deck : Edges.NO_DECKS) {
            Check.dueThrow("by digits, deck " + deck, Check.ARGUMENT, () -> x.pass(deck, 0, false));
            Check.dueThrow("by zones, deck " + deck, Check.ARGUMENT, () -> x.pass(deck, 0, true));
        }
        Check.due("deck", "2|1", Desk.deck(x, 0));
        Check.due("passes", 0, x.count(14));
    }

    private static void passOnNoColumn() {
        Check.sentence("Promise 6: IllegalArgumentException if there is no such column");
        CardOffice x = Desk.officeWith(0, "2", "1");
        for (int column : Edges.NO_COLUMNS) {
            Check.dueThrow("by digits, column " + column, Check.ARGUMENT, () -> x.pass(0, column, false));
            Check.dueThrow("by zones, column " + column, Check.ARGUMENT, () -> x.pass(0, column, true));
            Check.dueThrow("of an empty deck, column " + column, Check.ARGUMENT, () -> x.pass(1, column, true));
        }
        Check.due("deck", "2|1", Desk.deck(x, 0));
        Check.due("passes", 0, x.count(14));
    }

    private static void noPasses(String... texts) {
        CardOffice x = Desk.officeWith(0, texts);
        Check.due("passes", 0, x.sort(0, 0, 15));
        Check.due("passes so far", 0, x.count(14));
        Check.due("deck", String.join("|", texts), Desk.deck(x, 0));
    }

    private static void sortOfAnEmptyDeck() {
        Check.sentence("Promise 7: none if it is sorted already, an empty deck");
        noPasses();
    }

    private static void sortOfOneCard() {
        Check.sentence("Promise 7: none if it is sorted already, one card");
        noPasses("ZYX");
    }

    private static void sortOfCardsAlike() {
        Check.sentence("Terms: sorted if no card's key is less than that of the one ahead of it, all alike");
        noPasses("K1", "K1", "K1");
    }

    private static void sortOfASortedDeck() {
        Check.sentence("Promise 7: none if it is sorted already");
        noPasses("", "0", "9", "S", "Z", "J", "R", "A", "I", "IA");
        CardOffice x = Desk.officeWith(0, "2", "1");
        Check.due("passes", 1, x.sort(0, 0, 0));
        Check.due("passes of the sorted deck", 0, x.sort(0, 0, 0));
        Check.due("passes so far", 1, x.count(14));
    }

    private static void sortOfTheLeastUpset() {
        Check.sentence("Terms: sorted, but for the last card or the first");
        CardOffice x = Desk.officeWith(0, "1", "2", "3", "2");
        Check.due("the last one", 1, x.sort(0, 0, 0));
        Check.due("deck", "1|2|2|3", Desk.deck(x, 0));
        CardOffice y = Desk.officeWith(0, "2", "1", "2", "3");
        Check.due("the first one", 1, y.sort(0, 0, 0));
        Check.due("deck", "1|2|2|3", Desk.deck(y, 0));
    }

    private static void sortOnOuterFields() {
        Check.sentence("Terms: a field are columns from .. to (0 <= from <= to <= 15)");
        String one = "2              1";
        String two = "1              2";
        CardOffice x = Desk.officeWith(0, one, two);
        Check.due("15 .. 15", 0, x.sort(0, 15, 15));
        Check.due("0 .. 0", 1, x.sort(0, 0, 0));
        Check.due("deck", two + "|" + one, Desk.deck(x, 0));
        Check.due("15 .. 15", 1, x.sort(0, 15, 15));
        Check.due("deck", one + "|" + two, Desk.deck(x, 0));
        Check.due("1 .. 15", 0, x.sort(0, 1, 15));
        Check.due("0 .. 14", 15, x.sort(0, 0, 14));
        Check.due("deck", two + "|" + one, Desk.deck(x, 0));
        Check.due("1 .. 15", 15, x.sort(0, 1, 15));
        Check.due("0 .. 15", 16, x.sort(0, 0, 15));
        Check.due("deck", two + "|" + one, Desk.deck(x, 0));
    }

    private static void keysFromTheFirstOn() {
        Check.sentence("Terms: its key are their signs, compared from the first one on");
        CardOffice x = Desk.officeWith(0, "12", "21", "11", "22", " 3", "A ");
        x.sort(0, 0, 1);
        Check.due("deck", " 3|11|12|21|22|A", Desk.deck(x, 0));
    }

    private static void sortKeepsTheOrder() {
        Check.sentence("Promise 7: those with one key in the order that they had");
        CardOffice x = Desk.officeWith(0, "A3", "13", "A1", "12", "A2", "11");
        Check.due("passes", 2, x.sort(0, 0, 0));
        Check.due("deck", "13|12|11|A3|A1|A2", Desk.deck(x, 0));
    }

    private static void sortWithoutZones() {
        Check.sentence("Promise 7: for each column one by digits");
        for (int to = 0; to < 16; to++) {
            CardOffice x = Desk.officeWith(0, "9999999999999999", "0000000000000000", "");
            Check.due("passes of 0 .. " + to, to + 1, x.sort(0, 0, to));
        }
    }

    private static void sortWithAZoneBesideTheField() {
        Check.sentence("Promise 7: if a sign in it has a zone above 0, a column beside the field");
        CardOffice x = Desk.officeWith(0, "A2Z", "A1Z");
        Check.due("passes", 1, x.sort(0, 1, 1));
        Check.due("deck", "A1Z|A2Z", Desk.deck(x, 0));
    }

    private static void sortWithOneZone() {
        Check.sentence("Promise 7: if a sign in it has a zone above 0, one sign of the deck");
        for (char sign : "AIJRSZ".toCharArray()) {
            for (int column = 0; column < 3; column++) {
                StringBuilder last = new StringBuilder("111");
                last.setCharAt(column, sign);
                CardOffice x = Desk.officeWith(0, "222", "111", last.toString());
                Check.due("passes with " + last, 4, x.sort(0, 0, 2));
            }
            CardOffice y = Desk.officeWith(0, "" + sign, "9", "9");
            Check.due("passes with " + sign + " at the first card", 2, y.sort(0, 0, 0));
            Check.due("deck", "9|9|" + sign, Desk.deck(y, 0));
        }
    }

    private static void sortWithTheMostPasses() {
        Check.sentence("Promise 7: how many passes, the most");
        CardOffice x = Desk.officeWith(0, "ZZZZZZZZZZZZZZZZ", "");
        Check.due("passes", 32, x.sort(0, 0, 15));
        Check.due("passes so far", 32, x.count(14));
        Check.due("deck", "|ZZZZZZZZZZZZZZZZ", Desk.deck(x, 0));
    }

    private static void sortOfTwoHundred() {
        Check.sentence("Promise 7: a deck is sorted, 200 cards");
        CardOffice x = new CardOffice();
        for (int k = 199; k >= 0; k--) {
            Desk.putAll(x, 7, String.format("%03d", k));
        }
        Check.due("passes", 3, x.sort(7, 0, 2));
        for (int i = 0; i < 200; i++) {
            Check.due("card " + i, '0' + i % 10, x.sign(7, i, 2));
        }
        Check.due("it is sorted", 0, x.sort(7, 0, 2));
        Check.due("the last one", "199", Desk.cardAt(x, 7, 199));
    }

    private static void sortOfNoDeck() {
        Check.sentence("Promise 7: IllegalArgumentException if there is no such deck");
        CardOffice x = Desk.officeWith(0, "2", "1");
        for (int deck : Edges.NO_DECKS) {
            Check.dueThrow("deck " + deck, Check.ARGUMENT, () -> x.sort(deck, 0, 0));
        }
        Check.due("deck", "2|1", Desk.deck(x, 0));
        Check.due("passes", 0, x.count(14));
    }

    private static void sortOnNoField() {
        Check.sentence("Promise 7: IllegalArgumentException if there is no such field");
        CardOffice x = Desk.officeWith(0, "2", "1");
        for (int column : Edges.NO_COLUMNS) {
            Check.dueThrow("from " + column, Check.ARGUMENT, () -> x.sort(0, column, 15));
            Check.dueThrow("to " + column, Check.ARGUMENT, () -> x.sort(0, 0, column));
            Check.dueThrow("both " + column, Check.ARGUMENT, () -> x.sort(0, column, column));
        }
        Check.dueThrow("1 .. 0", Check.ARGUMENT, () -> x.sort(0, 1, 0));
        Check.dueThrow("15 .. 14", Check.ARGUMENT, () -> x.sort(0, 15, 14));
        Check.dueThrow("of an empty deck", Check.ARGUMENT, () -> x.sort(1, 1, 0));
        Check.due("deck", "2|1", Desk.deck(x, 0));
        Check.due("passes", 0, x.count(14));
    }
}
