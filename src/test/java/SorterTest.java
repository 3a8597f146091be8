/** Promises 6 and 7: pass, sort, and the counting of passes. */
public final class SorterTest {
    private static final int MIN = Integer.MIN_VALUE;
    private static final int MAX = Integer.MAX_VALUE;
    private static final String IN_ORDER = " 0123456789STUVWXYZJKLMNOPQRABCDEFGHI";

    public static void main(String[] args) {
        passByDigits();
        passByZones();
        passOfNothing();
        passRefused();
        sortOfAllSigns();
        sortKeepsOrder();
        sortCountsPasses();
        sortedAlready();
        sortRefused();
        Check.end();
    }

    private static String[] each(String signs) {
        return signs.split("");
    }

    private static void passByDigits() {
        CardOffice x = Desk.officeWith(0, each("ZRI9YQH8XPG7WOF6VNE5UMD4TLC3SKB2JA10 "));
        Check.due("pockets", 11, x.pass(0, 0, false));
        Check.due("deck", " 0JA1SKB2TLC3UMD4VNE5WOF6XPG7YQH8ZRI9", Desk.column(x, 0, 0));
        Check.due("passes", 1, x.count(14));
        CardOffice y = Desk.officeWith(3, "   5", "   E", "   2", "   N");
        Check.due("pockets", 2, y.pass(3, 3, false));
        Check.due("deck", "   2|   5|   E|   N", Desk.deck(y, 3));
        Check.due("pockets of another column", 1, y.pass(3, 15, false));
        Check.due("deck", "   2|   5|   E|   N", Desk.deck(y, 3));
    }

    private static void passByZones() {
        CardOffice x = Desk.officeWith(0, each("IA9RJ0ZS BK5"));
        Check.due("pockets", 4, x.pass(0, 0, true));
        Check.due("deck", "9|0||5|Z|S|R|J|K|I|A|B", Desk.deck(x, 0));
        CardOffice y = Desk.officeWith(0, "K", "A", "J");
        Check.due("pockets", 2, y.pass(0, 0, true));
        Check.due("deck", "K|J|A", Desk.deck(y, 0));
    }

    private static void passOfNothing() {
        CardOffice x = new CardOffice();
        Check.due("pockets", 0, x.pass(5, 0, false));
        Check.due("pockets", 0, x.pass(5, 0, true));
        Check.due("passes", 2, x.count(14));
    }

    private static void passRefused() {
        CardOffice x = Desk.officeWith(0, "2", "1");
        for (int wrong : new int[] {-1, 16, MIN, MAX}) {
            Check.dueThrow("column " + wrong, Check.ARGUMENT, () -> x.pass(0, wrong, false));
            Check.dueThrow("column " + wrong, Check.ARGUMENT, () -> x.pass(0, wrong, true));
        }
        for (int wrong : new int[] {-1, 8, MIN, MAX}) {
            Check.dueThrow("deck " + wrong, Check.ARGUMENT, () -> x.pass(wrong, 0, false));
        }
        Check.due("passes", 0, x.count(14));
        Check.due("deck", "2|1", Desk.deck(x, 0));
    }

    private static void sortOfAllSigns() {
        String upset = new StringBuilder(IN_ORDER).reverse().toString();
        CardOffice x = Desk.officeWith(1, each(upset));
        Check.due("passes", 2, x.sort(1, 0, 0));
        Check.due("deck", IN_ORDER, Desk.column(x, 1, 0));
        Check.due("sorted now", 0, x.sort(1, 0, 0));
    }

    private static void sortKeepsOrder() {
        CardOffice x = Desk.officeWith(0, "B2X", "A1X", "B2A", "A2Z", "A1B", "11C", "B1 ");
        Check.due("passes", 3, x.sort(0, 0, 1));
        Check.due("deck", "11C|A1X|A1B|A2Z|B1|B2X|B2A", Desk.deck(x, 0));
        CardOffice y = Desk.officeWith(0, "  2", "0 1", "  1");
        Check.due("passes", 1, y.sort(0, 2, 2));
        Check.due("deck", "0 1|  1|  2", Desk.deck(y, 0));
    }

    private static void sortCountsPasses() {
        CardOffice x = Desk.officeWith(0, "2              2", "1              1");
        Check.due("passes", 16, x.sort(0, 0, 15));
        CardOffice y = Desk.officeWith(0, "ABCDEFGHIJKLMNOP", "1               ");
        Check.due("passes", 32, y.sort(0, 0, 15));
        Check.due("passes so far", 32, y.count(14));
        y.pass(0, 0, true);
        y.pass(0, 0, false);
        Check.due("passes so far", 34, y.count(14));
        CardOffice z = Desk.officeWith(0, "29", "1S", "1R");
        Check.due("passes", 3, z.sort(0, 0, 1));
        Check.due("deck", "1S|1R|29", Desk.deck(z, 0));
    }

    private static void sortedAlready() {
        CardOffice x = Desk.officeWith(0, "1Z", "1A", "2 ", "2 ");
        Check.due("sorted", 0, x.sort(0, 0, 0));
        Check.due("sorted", 0, x.sort(0, 0, 1));
        Check.due("an empty deck", 0, x.sort(1, 0, 15));
        Check.due("passes so far", 0, x.count(14));
        Check.due("deck", "1Z|1A|2|2", Desk.deck(x, 0));
    }

    private static void sortRefused() {
        CardOffice x = Desk.officeWith(0, "2", "1");
        for (int wrong : new int[] {-1, 16, MIN, MAX}) {
            Check.dueThrow("from " + wrong, Check.ARGUMENT, () -> x.sort(0, wrong, 15));
            Check.dueThrow("to " + wrong, Check.ARGUMENT, () -> x.sort(0, 0, wrong));
        }
        Check.dueThrow("to ahead of from", Check.ARGUMENT, () -> x.sort(0, 5, 4));
        for (int wrong : new int[] {-1, 8, MIN, MAX}) {
            Check.dueThrow("deck " + wrong, Check.ARGUMENT, () -> x.sort(wrong, 0, 0));
        }
        Check.due("passes so far", 0, x.count(14));
        Check.due("deck", "2|1", Desk.deck(x, 0));
    }
}
