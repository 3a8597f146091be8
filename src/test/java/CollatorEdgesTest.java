/** The edges of promises 8 and 9: merge, match. */
public final class CollatorEdgesTest {
    public static void main(String[] args) {
        mergeOfTwoEmptyDecks();
        mergeOfAnEmptyOther();
        mergeIntoAnEmptyDeck();
        mergeOfLesserAndGreaterKeys();
        mergeOwnCardsFirst();
        mergeOfTwoHundred();
        mergeOnOuterFields();
        mergeOfNoDecks();
        mergeOnNoField();
        mergeOfTheSame();
        mergeOfDecksNotSorted();
        mergeThrowsTheFirstTold();
        matchOfEmptyDecks();
        matchOfNoCommonKey();
        matchOfAllKeys();
        matchOfOuterKeys();
        matchDeckFirst();
        matchComesToTheEnd();
        matchOthersStay();
        matchOfTwoHundred();
        matchOnOuterFields();
        matchOfNoDecks();
        matchOnNoField();
        matchOfTheSame();
        matchOfDecksNotSorted();
        matchIntoADeckNotSorted();
        matchThrowsTheFirstTold();
        Check.end();
    }

    private static CardOffice officeOf(String[] deck, String[] other) {
        CardOffice x = Desk.officeWith(0, deck);
        Desk.putAll(x, 1, other);
        return x;
    }

    private static String[] cards(String... texts) {
        return texts;
    }

    private static String decks(CardOffice x) {
        return Desk.deck(x, 0) + " and " + Desk.deck(x, 1) + " and " + Desk.deck(x, 2);
    }

    private static void mergeOfTwoEmptyDecks() {
        Check.sentence("Promise 8: how many cards it has, none");
        CardOffice x = new CardOffice();
        Check.due("cards", 0, x.merge(0, 7, 0, 15));
        Check.due("cards in all", 0, x.count(8));
    }

    private static void mergeOfAnEmptyOther() {
        Check.sentence("Promise 8: deck other into a deck, other is empty");
        CardOffice x = officeOf(cards("1", "2"), cards());
        Check.due("cards", 2, x.merge(0, 1, 0, 0));
        Check.due("decks", "1|2 and  and ", decks(x));
        Check.due("brought", 0, x.count(15));
    }

    private static void mergeIntoAnEmptyDeck() {
        Check.sentence("Promise 8: deck other into a deck, the deck is empty");
        CardOffice x = officeOf(cards(), cards("1", "2"));
        Check.due("cards", 2, x.merge(0, 1, 0, 0));
        Check.due("decks", "1|2 and  and ", decks(x));
        Check.due("brought", 2, x.count(15));
    }

    private static void mergeOfLesserAndGreaterKeys() {
        Check.sentence("Promise 8: the keys in order");
        CardOffice x = officeOf(cards("5", "6"), cards("", "0"));
        Check.due("cards", 4, x.merge(0, 1, 0, 0));
        Check.due("all ahead", "|0|5|6 and  and ", decks(x));
        Desk.putAll(x, 1, "6", "I");
        Check.due("cards", 6, x.merge(0, 1, 0, 0));
        Check.due("all behind", "|0|5|6|6|I and  and ", decks(x));
        Desk.putAll(x, 1, "4", "S", "J");
        Check.due("cards", 9, x.merge(0, 1, 0, 0));
        Check.due("between", "|0|4|5|6|6|S|J|I and  and ", decks(x));
    }

    private static void mergeOwnCardsFirst() {
        Check.sentence("Promise 8: of one key the deck's own cards first");
        CardOffice x = officeOf(cards("1A", "1B"), cards("1C", "1D"));
        Check.due("cards", 4, x.merge(0, 1, 0, 0));
        Check.due("deck", "1A|1B|1C|1D", Desk.deck(x, 0));
        CardOffice y = officeOf(cards("1A", "1B"), cards("1C", "1D"));
        Check.due("cards", 4, y.merge(1, 0, 0, 0));
        Check.due("deck", "1C|1D|1A|1B", Desk.deck(y, 1));
    }

    private static void mergeOfTwoHundred() {
        Check.sentence("Promise 8: how many cards it has, 200");
        CardOffice x = Edges.officeOf(100, "1");
        Edges.putMany(x, 1, 99, "1");
        Desk.putAll(x, 1, "2");
        Check.due("cards", 200, x.merge(0, 1, 0, 0));
        Check.due("cards of the deck", 200, x.count(0));
        Check.due("cards of the other", 0, x.count(1));
        Check.due("the last one", (int) '2', x.sign(0, 199, 0));
        Check.due("the other way", 200, x.merge(1, 0, 0, 0));
        Check.due("brought", 300, x.count(15));
        Check.due("the last one", (int) '2', x.sign(1, 199, 0));
    }

    private static void mergeOnOuterFields() {
        Check.sentence("Promise 8: sorted on a field, 0 .. 15, 0 .. 0 and 15 .. 15");
        for (int from : new int[] {0, 15}) {
            CardOffice x = officeOf(cards("1              2"), cards("2              1"));
            x.merge(0, 1, from, from);
            String due = from == 0 ? "1              2|2              1" : "2              1|1              2";
            Check.due("field " + from, due, Desk.deck(x, 0));
        }
        CardOffice y = officeOf(cards("111111111111111A"), cards("1111111111111111"));
        y.merge(0, 1, 0, 15);
        Check.due("the last sign of the longest key", "1111111111111111|111111111111111A", Desk.deck(y, 0));
    }

    private static CardOffice oneTwoAndThree() {
        return officeOf(cards("1", "2"), cards("3"));
    }

    private static void mergeOfNoDecks() {
        Check.sentence("Promise 8: IllegalArgumentException if there are no such decks");
        CardOffice x = oneTwoAndThree();
        for (int deck : Edges.NO_DECKS) {
            Check.dueThrow("deck " + deck, Check.ARGUMENT, () -> x.merge(deck, 1, 0, 0));
            Check.dueThrow("other " + deck, Check.ARGUMENT, () -> x.merge(0, deck, 0, 0));
            Check.dueThrow("both " + deck, Check.ARGUMENT, () -> x.merge(deck, deck, 0, 0));
        }
        Check.due("decks", "1|2 and 3 and ", decks(x));
    }

    private static void mergeOnNoField() {
        Check.sentence("Promise 8: IllegalArgumentException if there is no such field");
        CardOffice x = oneTwoAndThree();
        for (int column : Edges.NO_COLUMNS) {
            Check.dueThrow("from " + column, Check.ARGUMENT, () -> x.merge(0, 1, column, 15));
            Check.dueThrow("to " + column, Check.ARGUMENT, () -> x.merge(0, 1, 0, column));
            Check.dueThrow("both " + column, Check.ARGUMENT, () -> x.merge(0, 1, column, column));
        }
        Check.dueThrow("1 .. 0", Check.ARGUMENT, () -> x.merge(0, 1, 1, 0));
        Check.dueThrow("15 .. 14", Check.ARGUMENT, () -> x.merge(0, 1, 15, 14));
        Check.due("decks", "1|2 and 3 and ", decks(x));
    }

    private static void mergeOfTheSame() {
        Check.sentence("Promise 8: IllegalArgumentException if the decks are the same");
        CardOffice x = oneTwoAndThree();
        for (int deck = 0; deck < 8; deck++) {
            int d = deck;
            Check.dueThrow("deck " + deck, Check.ARGUMENT, () -> x.merge(d, d, 0, 0));
        }
        Check.due("decks", "1|2 and 3 and ", decks(x));
        Check.due("brought", 0, x.count(15));
    }

    private static void mergeOfDecksNotSorted() {
        Check.sentence("Promise 8: IllegalStateException if one is not sorted");
        CardOffice x = officeOf(cards("1A", "2"), cards("1B", "0"));
        Check.dueThrow("the other", Check.STATE, () -> x.merge(0, 1, 0, 0));
        Check.dueThrow("the deck", Check.STATE, () -> x.merge(1, 0, 0, 0));
        Check.dueThrow("the deck, the other empty", Check.STATE, () -> x.merge(1, 7, 0, 0));
        Check.dueThrow("the other, the deck empty", Check.STATE, () -> x.merge(7, 1, 0, 0));
        Check.due("decks", "1A|2 and 1B|0 and ", decks(x));
        Check.due("brought", 0, x.count(15));
        Check.dueThrow("both, on another field", Check.STATE, () -> x.merge(0, 1, 1, 1));
        Check.due("on a field where they are sorted", 4, x.merge(0, 1, 2, 15));
    }

    private static void mergeThrowsTheFirstTold() {
        Check.sentence("Promise 8: of several exceptions the one told first");
        CardOffice x = officeOf(cards("2", "1"), cards("2", "1"));
        Check.dueThrow("no deck", Check.ARGUMENT, () -> x.merge(0, 8, 0, 0));
        Check.dueThrow("no field", Check.ARGUMENT, () -> x.merge(0, 1, 0, 16));
        Check.dueThrow("the same", Check.ARGUMENT, () -> x.merge(1, 1, 0, 0));
        Check.dueThrow("not sorted", Check.STATE, () -> x.merge(0, 1, 0, 0));
    }

    private static void matchOfEmptyDecks() {
        Check.sentence("Promise 9: how many came, of empty decks");
        CardOffice x = officeOf(cards("1", "2"), cards());
        Check.due("other is empty", 0, x.match(0, 1, 2, 0, 0));
        Check.due("deck is empty", 0, x.match(1, 0, 2, 0, 0));
        Check.due("both are", 0, x.match(3, 4, 0, 0, 15));
        Check.due("decks", "1|2 and  and ", decks(x));
        Check.due("brought", 0, x.count(15));
    }

    private static void matchOfNoCommonKey() {
        Check.sentence("Promise 9: the others stay in theirs, all of them");
        CardOffice x = officeOf(cards("1", "3", "3", "S"), cards("", "2", "A"));
        Check.due("came", 0, x.match(0, 1, 2, 0, 0));
        Check.due("decks", "1|3|3|S and |2|A and ", decks(x));
    }

    private static void matchOfAllKeys() {
        Check.sentence("Promise 9: cards with a key that both have, all of them");
        CardOffice x = officeOf(cards("1A", "2A", "2B"), cards("1X", "1Y", "2X"));
        Check.due("came", 6, x.match(0, 1, 2, 0, 0));
        Check.due("decks", " and  and 1A|1X|1Y|2A|2B|2X", decks(x));
        Check.due("brought", 6, x.count(15));
    }

    private static void matchOfOuterKeys() {
        Check.sentence("Promise 9: cards with a key that both have, the first or the last one");
        CardOffice x = officeOf(cards("1A", "3A"), cards("1X", "2X"));
        Check.due("came", 2, x.match(0, 1, 2, 0, 0));
        Check.due("the first", "3A and 2X and 1A|1X", decks(x));
        CardOffice y = officeOf(cards("1A", "3A"), cards("2X", "3X"));
        Check.due("came", 2, y.match(0, 1, 2, 0, 0));
        Check.due("the last", "1A and 2X and 3A|3X", decks(y));
        CardOffice z = officeOf(cards("1A", "3A"), cards("3X", "4X"));
        Check.due("came", 2, z.match(0, 1, 2, 0, 0));
        Check.due("the last of one, the first of the other", "1A and 4X and 3A|3X", decks(z));
    }

    private static void matchDeckFirst() {
        Check.sentence("Promise 9: by keys, of one key those of deck first");
        CardOffice x = officeOf(cards("1A", "1B"), cards("1C", "1D"));
        x.match(0, 1, 2, 0, 0);
        Check.due("decks", " and  and 1A|1B|1C|1D", decks(x));
        CardOffice y = officeOf(cards("1A", "1B"), cards("1C", "1D"));
        y.match(1, 0, 2, 0, 0);
        Check.due("decks", " and  and 1C|1D|1A|1B", decks(y));
    }

    private static void matchComesToTheEnd() {
        Check.sentence("Promise 9: come to the end of deck into");
        CardOffice x = officeOf(cards("5A"), cards("5B"));
        Desk.putAll(x, 2, "5C", "9");
        Check.due("came, without those that were there", 2, x.match(0, 1, 2, 0, 0));
        Check.due("decks", " and  and 5C|9|5A|5B", decks(x));
        Check.due("brought", 2, x.count(15));
    }

    private static void matchOthersStay() {
        Check.sentence("Promise 9: the others stay in theirs, in their order");
        CardOffice x = officeOf(cards("0A", "0B", "1A", "2A", "2B"), cards("1X", "3Y", "3X"));
        Check.due("came", 2, x.match(0, 1, 2, 0, 0));
        Check.due("decks", "0A|0B|2A|2B and 3Y|3X and 1A|1X", decks(x));
    }

    private static void matchOfTwoHundred() {
        Check.sentence("Promise 9: how many came, 200");
        CardOffice x = Edges.officeOf(1, "1");
        Edges.putMany(x, 1, 199, "1");
        Check.due("came", 200, x.match(0, 1, 2, 0, 0));
        Check.due("cards of into", 200, x.count(2));
        Check.due("cards of the two", 0, x.count(0) + x.count(1));
        Check.due("brought", 200, x.count(15));
    }

    private static void matchOnOuterFields() {
        Check.sentence("Promise 9: sorted on a field, 0 .. 15, 0 .. 0 and 15 .. 15");
        String one = "1              2";
        String two = "1              3";
        CardOffice x = officeOf(cards(one), cards(two));
        Check.due("15 .. 15", 0, x.match(0, 1, 2, 15, 15));
        Check.due("0 .. 15", 0, x.match(0, 1, 2, 0, 15));
        Check.due("0 .. 14", 2, x.match(0, 1, 2, 0, 14));
        CardOffice y = officeOf(cards(one), cards("2              2"));
        Check.due("0 .. 0", 0, y.match(0, 1, 2, 0, 0));
        Check.due("0 .. 15", 0, y.match(0, 1, 2, 0, 15));
        Check.due("1 .. 15", 2, y.match(0, 1, 2, 1, 15));
    }

    private static void matchOfNoDecks() {
        Check.sentence("Promise 9: IllegalArgumentException if there are no such decks");
        CardOffice x = oneTwoAndThree();
        for (int deck : Edges.NO_DECKS) {
            Check.dueThrow("deck " + deck, Check.ARGUMENT, () -> x.match(deck, 1, 2, 0, 0));
            Check.dueThrow("other " + deck, Check.ARGUMENT, () -> x.match(0, deck, 2, 0, 0));
            Check.dueThrow("into " + deck, Check.ARGUMENT, () -> x.match(0, 1, deck, 0, 0));
        }
        Check.due("decks", "1|2 and 3 and ", decks(x));
    }

    private static void matchOnNoField() {
        Check.sentence("Promise 9: IllegalArgumentException if there is no such field");
        CardOffice x = oneTwoAndThree();
        for (int column : Edges.NO_COLUMNS) {
            Check.dueThrow("from " + column, Check.ARGUMENT, () -> x.match(0, 1, 2, column, 15));
            Check.dueThrow("to " + column, Check.ARGUMENT, () -> x.match(0, 1, 2, 0, column));
            Check.dueThrow("both " + column, Check.ARGUMENT, () -> x.match(0, 1, 2, column, column));
        }
        Check.dueThrow("1 .. 0", Check.ARGUMENT, () -> x.match(0, 1, 2, 1, 0));
        Check.dueThrow("15 .. 14", Check.ARGUMENT, () -> x.match(0, 1, 2, 15, 14));
        Check.due("decks", "1|2 and 3 and ", decks(x));
    }

    private static void matchOfTheSame() {
        Check.sentence("Promise 9: IllegalArgumentException if two of the three are the same");
        CardOffice x = oneTwoAndThree();
        for (int deck = 0; deck < 8; deck++) {
            int d = deck;
            int o = (deck + 1) % 8;
            Check.dueThrow("deck and other " + deck, Check.ARGUMENT, () -> x.match(d, d, o, 0, 0));
            Check.dueThrow("deck and into " + deck, Check.ARGUMENT, () -> x.match(d, o, d, 0, 0));
            Check.dueThrow("other and into " + deck, Check.ARGUMENT, () -> x.match(o, d, d, 0, 0));
            Check.dueThrow("all three " + deck, Check.ARGUMENT, () -> x.match(d, d, d, 0, 0));
        }
        Check.due("decks", "1|2 and 3 and ", decks(x));
    }

    private static void matchOfDecksNotSorted() {
        Check.sentence("Promise 9: IllegalStateException if one is not sorted");
        CardOffice x = officeOf(cards("1A", "2"), cards("1B", "0"));
        Check.dueThrow("the other", Check.STATE, () -> x.match(0, 1, 2, 0, 0));
        Check.dueThrow("the deck", Check.STATE, () -> x.match(1, 0, 2, 0, 0));
        Check.dueThrow("the deck, the other empty", Check.STATE, () -> x.match(1, 7, 2, 0, 0));
        Check.dueThrow("the other, the deck empty", Check.STATE, () -> x.match(7, 1, 2, 0, 0));
        Check.due("decks", "1A|2 and 1B|0 and ", decks(x));
        Check.due("brought", 0, x.count(15));
        Check.due("on a field where they are sorted", 4, x.match(0, 1, 2, 2, 15));
    }

    private static void matchIntoADeckNotSorted() {
        Check.sentence("Promise 9: two decks that are sorted, not the third");
        CardOffice x = officeOf(cards("1"), cards("1"));
        Desk.putAll(x, 2, "9", "8");
        Check.due("came", 2, x.match(0, 1, 2, 0, 0));
        Check.due("decks", " and  and 9|8|1|1", decks(x));
    }

    private static void matchThrowsTheFirstTold() {
        Check.sentence("Promise 9: of several exceptions the one told first");
        CardOffice x = officeOf(cards("2", "1"), cards("2", "1"));
        Check.dueThrow("no deck", Check.ARGUMENT, () -> x.match(0, 1, 8, 0, 0));
        Check.dueThrow("no field", Check.ARGUMENT, () -> x.match(0, 1, 2, 0, 16));
        Check.dueThrow("the same", Check.ARGUMENT, () -> x.match(0, 1, 1, 0, 0));
        Check.dueThrow("not sorted", Check.STATE, () -> x.match(0, 1, 2, 0, 0));
    }
}
