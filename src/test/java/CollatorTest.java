/** Promises 8 and 9: merge, match, and the counting of what the collator brought. */
public final class CollatorTest {
    private static final int MIN = Integer.MIN_VALUE;
    private static final int MAX = Integer.MAX_VALUE;

    public static void main(String[] args) {
        mergeInOrder();
        mergeWithNothing();
        mergeOnField();
        mergeRefused();
        matchInOrder();
        matchOfNothing();
        matchOnField();
        matchRefused();
        argumentsComeFirst();
        allCards();
        Check.end();
    }

    private static void mergeInOrder() {
        CardOffice x = Desk.officeWith(0, " X", "1X", "3X", "3Y", "AX");
        Desk.putAll(x, 1, "0A", "1A", "3A", "SA", "AA", "AB");
        Check.due("cards", 11, x.merge(0, 1, 0, 0));
        Check.due("deck", " X|0A|1X|1A|3X|3Y|3A|SA|AX|AA|AB", Desk.deck(x, 0));
        Check.due("other", "", Desk.deck(x, 1));
        Check.due("brought", 6, x.count(15));
        Check.due("cards in all", 11, x.count(8));
    }

    private static void mergeWithNothing() {
        CardOffice x = Desk.officeWith(0, "1", "2");
        Check.due("an empty other", 2, x.merge(0, 1, 0, 0));
        Check.due("deck", "1|2", Desk.deck(x, 0));
        Check.due("brought", 0, x.count(15));
        Check.due("an empty deck", 2, x.merge(1, 0, 0, 0));
        Check.due("deck", "1|2", Desk.deck(x, 1));
        Check.due("brought", 2, x.count(15));
        Check.due("both empty", 0, x.merge(3, 4, 0, 15));
    }

    private static void mergeOnField() {
        CardOffice x = Desk.officeWith(0, "9  15", "0  26");
        Desk.putAll(x, 7, "5  14", "6  26", "1  27");
        Check.due("cards", 5, x.merge(0, 7, 3, 4));
        Check.due("deck", "5  14|9  15|0  26|6  26|1  27", Desk.deck(x, 0));
    }

    private static void mergeRefused() {
        CardOffice x = Desk.officeWith(0, "1", "2");
        Desk.putAll(x, 1, "2", "1");
        Check.dueThrow("other not sorted", Check.STATE, () -> x.merge(0, 1, 0, 0));
        Check.dueThrow("deck not sorted", Check.STATE, () -> x.merge(1, 0, 0, 0));
        Check.dueThrow("deck not sorted, other empty", Check.STATE, () -> x.merge(1, 2, 0, 0));
        Check.dueThrow("the same", Check.ARGUMENT, () -> x.merge(0, 0, 0, 0));
        for (int wrong : new int[] {-1, 8, MIN, MAX}) {
            Check.dueThrow("deck " + wrong, Check.ARGUMENT, () -> x.merge(wrong, 0, 0, 0));
            Check.dueThrow("other " + wrong, Check.ARGUMENT, () -> x.merge(0, wrong, 0, 0));
        }
        for (int wrong : new int[] {-1, 16, MIN, MAX}) {
            Check.dueThrow("from " + wrong, Check.ARGUMENT, () -> x.merge(0, 2, wrong, 15));
            Check.dueThrow("to " + wrong, Check.ARGUMENT, () -> x.merge(0, 2, 0, wrong));
        }
        Check.dueThrow("to ahead of from", Check.ARGUMENT, () -> x.merge(0, 2, 2, 1));
        Check.due("deck", "1|2", Desk.deck(x, 0));
        Check.due("other", "2|1", Desk.deck(x, 1));
        Check.due("brought", 0, x.count(15));
        Check.due("another field", 4, x.merge(0, 1, 1, 1));
        Check.due("deck", "1|2|2|1", Desk.deck(x, 0));
    }

    private static void matchInOrder() {
        CardOffice x = Desk.officeWith(0, "1A", "1B", "2A", "4A", "5A", "AA");
        Desk.putAll(x, 1, "0X", "1X", "3X", "4X", "4Y", "KX", "AX", "AY");
        Desk.putAll(x, 2, "9");
        Check.due("came", 9, x.match(0, 1, 2, 0, 0));
        Check.due("into", "9|1A|1B|1X|4A|4X|4Y|AA|AX|AY", Desk.deck(x, 2));
        Check.due("deck", "2A|5A", Desk.deck(x, 0));
        Check.due("other", "0X|3X|KX", Desk.deck(x, 1));
        Check.due("brought", 9, x.count(15));
        Check.due("none left alike", 0, x.match(0, 1, 2, 0, 0));
        Check.due("deck", "2A|5A", Desk.deck(x, 0));
        Check.due("brought", 9, x.count(15));
        Check.due("merge", 5, x.merge(1, 0, 0, 0));
        Check.due("brought", 11, x.count(15));
    }

    private static void matchOfNothing() {
        CardOffice x = Desk.officeWith(0, "1", "2");
        Check.due("an empty other", 0, x.match(0, 1, 2, 0, 0));
        Check.due("an empty deck", 0, x.match(1, 0, 2, 0, 0));
        Check.due("deck", "1|2", Desk.deck(x, 0));
        Check.due("into", "", Desk.deck(x, 2));
    }

    private static void matchOnField() {
        CardOffice x = Desk.officeWith(5, "9A1", "8A2");
        Desk.putAll(x, 6, "7A1", "1B2");
        Desk.putAll(x, 4, "Z", "A");
        Check.due("came", 2, x.match(5, 6, 4, 1, 2));
        Check.due("into need not be sorted", "Z|A|9A1|7A1", Desk.deck(x, 4));
        Check.due("deck", "8A2", Desk.deck(x, 5));
        Check.due("other", "1B2", Desk.deck(x, 6));
    }

    private static void matchRefused() {
        CardOffice x = Desk.officeWith(0, "1", "2");
        Desk.putAll(x, 1, "2", "1");
        Check.dueThrow("other not sorted", Check.STATE, () -> x.match(0, 1, 2, 0, 0));
        Check.dueThrow("deck not sorted", Check.STATE, () -> x.match(1, 0, 2, 0, 0));
        Check.dueThrow("deck and other the same", Check.ARGUMENT, () -> x.match(0, 0, 2, 0, 0));
        Check.dueThrow("deck and into the same", Check.ARGUMENT, () -> x.match(0, 2, 0, 0, 0));
        Check.dueThrow("other and into the same", Check.ARGUMENT, () -> x.match(0, 2, 2, 0, 0));
        for (int wrong : new int[] {-1, 8, MIN, MAX}) {
            Check.dueThrow("deck " + wrong, Check.ARGUMENT, () -> x.match(wrong, 2, 3, 0, 0));
            Check.dueThrow("other " + wrong, Check.ARGUMENT, () -> x.match(0, wrong, 3, 0, 0));
            Check.dueThrow("into " + wrong, Check.ARGUMENT, () -> x.match(0, 2, wrong, 0, 0));
        }
        for (int wrong : new int[] {-1, 16, MIN, MAX}) {
            Check.dueThrow("from " + wrong, Check.ARGUMENT, () -> x.match(0, 2, 3, wrong, 15));
            Check.dueThrow("to " + wrong, Check.ARGUMENT, () -> x.match(0, 2, 3, 0, wrong));
        }
        Check.dueThrow("to ahead of from", Check.ARGUMENT, () -> x.match(0, 2, 3, 2, 1));
        Check.due("deck", "1|2", Desk.deck(x, 0));
        Check.due("other", "2|1", Desk.deck(x, 1));
        Check.due("brought", 0, x.count(15));
    }

    private static void argumentsComeFirst() {
        CardOffice x = Desk.officeWith(0, "2", "1");
        Check.dueThrow("merge", Check.ARGUMENT, () -> x.merge(0, 8, 0, 0));
        Check.dueThrow("merge the same", Check.ARGUMENT, () -> x.merge(0, 0, 0, 0));
        Check.dueThrow("match", Check.ARGUMENT, () -> x.match(0, 1, 0, 0, 0));
        Check.dueThrow("match of no field", Check.ARGUMENT, () -> x.match(0, 1, 2, 1, 0));
    }

    private static void allCards() {
        CardOffice x = new CardOffice();
        for (int k = 0; k < 100; k++) {
            Desk.putAll(x, 0, String.format("%02d", k));
            Desk.putAll(x, 1, String.format("%02d", k));
        }
        Check.due("came", 200, x.match(0, 1, 2, 0, 1));
        Check.due("last one", "99", Desk.cardAt(x, 2, 199));
        Check.due("merge", 200, x.merge(3, 2, 0, 1));
        Check.due("brought", 400, x.count(15));
    }
}
