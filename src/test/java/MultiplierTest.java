/** Promise 12: multiply, with its faults. */
public final class MultiplierTest {
    private static final int MIN = Integer.MIN_VALUE;
    private static final int MAX = Integer.MAX_VALUE;

    public static void main(String[] args) {
        products();
        halvesUp();
        theBiggest();
        badFactors();
        badProducts();
        tooManyDigits();
        leastFault();
        whatIsAField();
        commonColumns();
        wrongDecks();
        Check.end();
    }

    private static int field(int from, int columns) {
        return from + 16 * (columns - 1);
    }

    private static void products() {
        CardOffice x = Desk.officeWith(0, "123 45", " 2   5", "", "999 99");
        Check.due("gone through", 4, x.multiply(0, field(0, 3), field(4, 2), field(8, 5)));
        Check.due("deck", "123 45  00554| 2   5  00010|        00000|999 99  09890", Desk.deck(x, 0));
        Check.due("fault", "0 at -1", Desk.fault(x));
        Check.due("the same comes again", 4, x.multiply(0, field(0, 3), field(4, 2), field(8, 5)));
        Check.due("an empty deck", 0, x.multiply(1, 0, 1, 2));
        Check.due("fault", "0 at -1", Desk.fault(x));

        CardOffice y = Desk.officeWith(0, "1 2");
        y.multiply(0, field(0, 3), field(0, 3), field(13, 3));
        Check.due("102 * 102 / 10 has four digits", "3 at 0", Desk.fault(y));
        Check.due("a field times itself", 1, y.multiply(0, field(0, 3), field(0, 3), field(12, 4)));
        Check.due("deck", "1 2         1040", Desk.deck(y, 0));
    }

    private static void halvesUp() {
        CardOffice x = Desk.officeWith(0, "1 4", "1 5", "1 6", "3 5", "9 9", "2 2", "7 2");
        Check.due("gone through", 7, x.multiply(0, 0, 2, 4));
        Check.due("deck", "1 4 0|1 5 1|1 6 1|3 5 2|9 9 8|2 2 0|7 2 1", Desk.deck(x, 0));
    }

    private static void theBiggest() {
        CardOffice x = Desk.officeWith(0, "999999999999", "999999000010", "999999000011");
        Check.due("gone through", 0, x.multiply(0, field(0, 6), field(6, 6), field(12, 4)));
        Check.due("fault", "3 at 0", Desk.fault(x));
        CardOffice y = Desk.officeWith(0, "99999910", "99999911", "99999912");
        Check.due("gone through", 1, y.multiply(0, field(0, 6), field(6, 2), field(8, 6)));
        Check.due("fault", "3 at 1", Desk.fault(y));
        Check.due("deck", "99999910999999|99999911|99999912", Desk.deck(y, 0));
    }

    private static void badFactors() {
        for (char sign : "ABCDEFGHIJKLMNOPQRSTUVWXYZ".toCharArray()) {
            CardOffice x = Desk.officeWith(0, "11", sign + "1");
            Check.due("gone through", 1, x.multiply(0, 0, 1, 2));
            Check.due("rate " + sign, "1 at 1", Desk.fault(x));
            CardOffice y = Desk.officeWith(0, "11", "1" + sign);
            Check.due("gone through", 1, y.multiply(0, 0, 1, 2));
            Check.due("quantity " + sign, "1 at 1", Desk.fault(y));
            Check.due("deck", "110|1" + sign, Desk.deck(y, 0));
        }
    }

    private static void badProducts() {
        CardOffice x = Desk.officeWith(0, "99 08", "99  8", "99 0 ", "99 88", "99");
        Check.due("gone through", 3, x.multiply(0, 0, 1, field(3, 2)));
        Check.due("fault", "1 at 3", Desk.fault(x));
        Check.due("deck", "99 08|99 08|99 08|99 88|99", Desk.deck(x, 0));
        CardOffice y = Desk.officeWith(0, "99  A");
        Check.due("gone through", 0, y.multiply(0, 0, 1, field(3, 2)));
        Check.due("fault", "1 at 0", Desk.fault(y));
        Check.due("nothing was punched", "99  A", Desk.deck(y, 0));
    }

    private static void tooManyDigits() {
        CardOffice x = Desk.officeWith(0, "95 9");
        Check.due("gone through", 0, x.multiply(0, field(0, 2), field(3, 1), field(4, 1)));
        Check.due("95 * 9 / 10 has two digits", "3 at 0", Desk.fault(x));
        CardOffice y = Desk.officeWith(0, "94 1", "95 1", "1");
        Check.due("gone through", 1, y.multiply(0, field(0, 2), field(3, 1), field(4, 1)));
        Check.due("halves make a digit more", "3 at 1", Desk.fault(y));
        Check.due("deck", "94 19|95 1|1", Desk.deck(y, 0));
    }

    private static void leastFault() {
        CardOffice x = Desk.officeWith(0, "99A 99");
        x.multiply(0, field(0, 3), field(4, 2), 8);
        Check.due("a bad sign in a big number", "1 at 0", Desk.fault(x));
        CardOffice y = Desk.officeWith(0, "999 99  X");
        y.multiply(0, field(0, 3), field(4, 2), 8);
        Check.due("the product is not looked at if it is too big", "3 at 0", Desk.fault(y));
    }

    private static void whatIsAField() {
        CardOffice x = new CardOffice();
        for (int field = -40; field < 140; field++) {
            int from = Math.floorMod(field, 16);
            int columns = Math.floorDiv(field, 16) + 1;
            boolean isField = columns >= 1 && columns <= 6 && from + columns <= 16;
            // A column apart, so that a field that is none can't be refused for another reason.
            int other = from >= 8 ? 0 : 15;
            int tried = field;
            if (isField) {
                Check.due("rate " + field, 0, x.multiply(0, tried, tried, other));
                Check.due("product " + field, 0, x.multiply(0, other, other, tried));
            } else {
                Check.dueThrow("rate " + field, Check.ARGUMENT, () -> x.multiply(0, tried, other, other == 0 ? 1 : 14));
                Check.dueThrow("quantity " + field, Check.ARGUMENT, () -> x.multiply(0, other, tried, other == 0 ? 1 : 14));
                Check.dueThrow("product " + field, Check.ARGUMENT, () -> x.multiply(0, other, other, tried));
            }
        }
        for (int wrong : new int[] {MIN, MAX}) {
            Check.dueThrow("rate " + wrong, Check.ARGUMENT, () -> x.multiply(0, wrong, 15, 0));
            Check.dueThrow("quantity " + wrong, Check.ARGUMENT, () -> x.multiply(0, 15, wrong, 0));
            Check.dueThrow("product " + wrong, Check.ARGUMENT, () -> x.multiply(0, 15, 15, wrong));
        }
    }

    private static void commonColumns() {
        CardOffice x = Desk.officeWith(0, "111111");
        Check.dueThrow("last of rate", Check.ARGUMENT, () -> x.multiply(0, field(0, 3), 15, field(2, 2)));
        Check.dueThrow("first of quantity", Check.ARGUMENT, () -> x.multiply(0, 15, field(4, 3), field(3, 2)));
        Check.dueThrow("within", Check.ARGUMENT, () -> x.multiply(0, field(0, 6), 15, field(2, 2)));
        Check.dueThrow("around", Check.ARGUMENT, () -> x.multiply(0, 15, field(3, 1), field(1, 6)));
        Check.dueThrow("the same", Check.ARGUMENT, () -> x.multiply(0, 5, 15, 5));
        Check.due("deck", "111111", Desk.deck(x, 0));
        Check.due("side by side", 1, x.multiply(0, field(0, 6), field(14, 2), field(8, 6)));
    }

    private static void wrongDecks() {
        CardOffice x = new CardOffice();
        for (int wrong : new int[] {-1, 8, MIN, MAX}) {
            Check.dueThrow("deck " + wrong, Check.ARGUMENT, () -> x.multiply(wrong, 0, 1, 2));
        }
    }
}
