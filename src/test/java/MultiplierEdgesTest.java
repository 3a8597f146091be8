/** The edges of promise 12: multiply, with its faults. */
public final class MultiplierEdgesTest {
    private static final int[] POWERS = {1, 10, 100, 1000, 10000, 100000, 1000000};

    public static void main(String[] args) {
        oneToSixColumns();
        firstAndLastColumns();
        fieldsThatAreNone();
        productWithAColumnOfAnother();
        factorsWithCommonColumns();
        noSuchDeck();
        anEmptyDeck();
        twoHundredCards();
        zeroTimesAnything();
        blanksAreZeros();
        halvesGoUp();
        zerosAhead();
        theGreatestProducts();
        theFirstProductsThatAreTooBig();
        halvesThatMakeADigitMore();
        theGreatestFactors();
        productsThatWrapInAnInt();
        factorsThatAreNoDigits();
        signsInTheProduct();
        productNotLookedAtIfTooBig();
        leastFault();
        stopsAheadOfACard();
        Check.end();
    }

    private static int field(int from, int columns) {
        return from + 16 * (columns - 1);
    }

    private static String told(int number, int columns) {
        return String.format("%0" + columns + "d", number);
    }

    /** A card with the rate in columns 0 .. 5 and the quantity in 6 .. 9; the product comes to 10 and those behind. */
    private static CardOffice officeOf(int rate, int quantity) {
        return Desk.officeWith(0, told(rate, 6) + told(quantity, 4));
    }

    private static int run(CardOffice x, int productColumns) {
        return x.multiply(0, field(0, 6), field(6, 4), field(10, productColumns));
    }

    private static void punched(String due, int rate, int quantity) {
        CardOffice x = officeOf(rate, quantity);
        Check.due("gone through", 1, run(x, due.length()));
        Check.due("fault", "0 at -1", Desk.fault(x));
        Check.due(rate + " times " + quantity, told(rate, 6) + told(quantity, 4) + due, Desk.cardAt(x, 0, 0));
    }

    private static void tooBig(int productColumns, int rate, int quantity) {
        CardOffice x = officeOf(rate, quantity);
        Check.due("gone through", 0, run(x, productColumns));
        Check.due(rate + " times " + quantity, "3 at 0", Desk.fault(x));
        Check.due("nothing was punched", told(rate, 6) + told(quantity, 4), Desk.cardAt(x, 0, 0));
    }

    private static void oneToSixColumns() {
        Check.sentence("Promise 12: each field is told as from + 16 * (columns - 1), 1 to 6 columns");
        for (int columns = 1; columns <= 6; columns++) {
            int number = Integer.parseInt("123456".substring(0, columns));
            CardOffice x = Desk.officeWith(0, "123456 10");
            Check.due("gone through", 1, x.multiply(0, field(0, columns), field(7, 2), field(10, 6)));
            Check.due("rate of " + columns, "123456 10 " + told(number, 6), Desk.deck(x, 0));
            CardOffice y = Desk.officeWith(0, "123456 10");
            Check.due("gone through", 1, y.multiply(0, field(7, 2), field(0, columns), field(10, 6)));
            Check.due("quantity of " + columns, "123456 10 " + told(number, 6), Desk.deck(y, 0));
            punched(told(7, columns), 7, 10);
        }
    }

    private static void firstAndLastColumns() {
        Check.sentence("Promise 12: fields at columns 0 and 15");
        CardOffice x = Desk.officeWith(0, "7              8");
        Check.due("gone through", 1, x.multiply(0, field(0, 1), field(15, 1), field(1, 6)));
        Check.due("56 by 10 is 6", "7000006        8", Desk.deck(x, 0));
        CardOffice y = Desk.officeWith(0, "          000025", "               9");
        Check.due("gone through", 2, y.multiply(0, field(10, 6), field(15, 1), field(0, 6)));
        Check.due("125 by 10 is 13, 81 by 10 is 8", "000013    000025|000008         9", Desk.deck(y, 0));
        CardOffice z = Desk.officeWith(0, "     9", "000025");
        Check.due("gone through", 1, z.multiply(0, field(0, 6), field(5, 1), field(15, 1)));
        Check.due("deck", "     9         8|000025", Desk.deck(z, 0));
        Check.due("13 has two digits", "3 at 1", Desk.fault(z));
    }

    private static void refusedField(int field, int apart) {
        CardOffice x = new CardOffice();
        int product = apart == 0 ? 1 : apart - 1;
        Check.dueThrow("rate " + field, Check.ARGUMENT, () -> x.multiply(0, field, apart, product));
        Check.dueThrow("quantity " + field, Check.ARGUMENT, () -> x.multiply(0, apart, field, product));
        Check.dueThrow("product " + field, Check.ARGUMENT, () -> x.multiply(0, apart, apart, field));
    }

    private static void fieldsThatAreNone() {
        Check.sentence("Promise 12: IllegalArgumentException if a field is none");
        CardOffice x = new CardOffice();
        for (int columns = 1; columns <= 6; columns++) {
            int last = field(16 - columns, columns);
            Check.due("the last rate of " + columns, 0, x.multiply(0, last, 1, 0));
            Check.due("the last quantity of " + columns, 0, x.multiply(0, 1, last, 0));
            Check.due("the last product of " + columns, 0, x.multiply(0, 1, 0, last));
            for (int from = 17 - columns; from < 16; from++) {
                refusedField(field(from, columns), 0);
            }
        }
        for (int from = 0; from < 16; from++) {
            refusedField(field(from, 7), from < 8 ? 15 : 0);
            refusedField(field(from, 0), from < 8 ? 15 : 2);
        }
        for (int field : new int[] {96, 112, 256, 1 << 16, -1, -16, -17, Edges.LEAST, Edges.LEAST + 1, Edges.GREATEST}) {
            refusedField(field, 15);
        }
    }

    /** Which products of one width are taken beside a field of columns 5 .. 7. */
    private static void productsBeside(int columns) {
        CardOffice x = new CardOffice();
        int other = field(5, 3);
        int apart = 15;
        for (int from = 0; from + columns <= 15; from++) {
            int product = field(from, columns);
            boolean isApart = from + columns <= 5 || from >= 8;
            if (isApart) {
                Check.due("product " + product, 0, x.multiply(0, other, apart, product));
                Check.due("product " + product, 0, x.multiply(0, apart, other, product));
            } else {
                Check.dueThrow("product " + product + " in the rate", Check.ARGUMENT, () -> x.multiply(0, other, apart, product));
                Check.dueThrow("product " + product + " in the quantity", Check.ARGUMENT, () -> x.multiply(0, apart, other, product));
            }
        }
    }

    private static void productWithAColumnOfAnother() {
        Check.sentence("Promise 12: IllegalArgumentException if the third has a column of the others");
        for (int columns = 1; columns <= 6; columns++) {
            productsBeside(columns);
        }
    }

    private static void factorsWithCommonColumns() {
        Check.sentence("Promise 12: the third has a column of the others, the first two may have common ones");
        CardOffice x = Desk.officeWith(0, "123");
        Check.due("the same field", 1, x.multiply(0, field(0, 3), field(0, 3), field(4, 4)));
        Check.due("123 times 123", "123 1513", Desk.deck(x, 0));
        Check.due("a common column", 1, x.multiply(0, field(0, 2), field(1, 2), field(9, 3)));
        Check.due("12 times 23", "123 1513 028", Desk.deck(x, 0));
    }

    private static void noSuchDeck() {
        Check.sentence("Promise 12: IllegalArgumentException if there is no such deck");
        CardOffice x = Desk.officeWith(0, "11");
        for (int deck : Edges.NO_DECKS) {
            Check.dueThrow("deck " + deck, Check.ARGUMENT, () -> x.multiply(deck, 0, 1, 2));
        }
        Check.due("deck", "11", Desk.deck(x, 0));
        Check.due("the last deck", 0, x.multiply(7, 0, 1, 2));
    }

    private static void anEmptyDeck() {
        Check.sentence("Promise 12: how many cards were gone through, of an empty deck");
        CardOffice x = new CardOffice();
        Check.due("gone through", 0, x.multiply(0, 0, 1, 2));
        Check.due("fault", "0 at -1", Desk.fault(x));
    }

    private static void twoHundredCards() {
        Check.sentence("Promise 12: how many cards were gone through, 200");
        CardOffice x = Edges.officeOf(200, "2 5");
        Check.due("gone through", 200, x.multiply(0, 0, 2, 4));
        for (int i = 0; i < 200; i++) {
            Check.due("card " + i, (int) '1', x.sign(0, i, 4));
        }
    }

    private static void zeroTimesAnything() {
        Check.sentence("Promise 12: the number in the first one times that in the second, 0");
        punched("000000", 0, 9999);
        punched("000000", 999999, 0);
        punched("0", 0, 0);
    }

    private static void blanksAreZeros() {
        Check.sentence("Promise 12: a digit 0 .. 9 or a blank (0)");
        CardOffice x = Desk.officeWith(0, "1 2 10", "1   10", "  2 1 ", "    10", "102   ", "");
        Check.due("gone through", 6, x.multiply(0, field(0, 3), field(4, 2), field(8, 3)));
        Check.due("deck", "1 2 10  102|1   10  100|  2 1   002|    10  000|102     000|        000", Desk.deck(x, 0));
    }

    private static void halvesGoUp() {
        Check.sentence("Promise 12: divided by 10, halves up");
        punched("0", 4, 1);
        punched("1", 5, 1);
        punched("1", 14, 1);
        punched("2", 15, 1);
        punched("2", 24, 1);
        punched("3", 25, 1);
        punched("3", 5, 5);
        punched("99999", 999994, 1);
        punched("100000", 999995, 1);
    }

    private static void zerosAhead() {
        Check.sentence("Promise 12: is punched into the third, with zeros ahead");
        for (int columns = 1; columns <= 6; columns++) {
            punched(told(0, columns), 0, 0);
            punched(told(9, columns), 9, 10);
            punched(told(POWERS[columns - 1], columns), POWERS[columns - 1], 10);
        }
    }

    private static void theGreatestProducts() {
        Check.sentence("Promise 12: fault 3 if it has too many digits, the greatest product that has not");
        for (int columns = 1; columns <= 6; columns++) {
            punched("999999".substring(0, columns), POWERS[columns] - 1, 10);
        }
        for (int columns = 1; columns <= 5; columns++) {
            punched("999999".substring(0, columns), POWERS[columns + 1] - 6, 1);
        }
        // 9999994
        punched("999999", 232558, 43);
    }

    private static void theFirstProductsThatAreTooBig() {
        Check.sentence("Promise 12: fault 3 if it has too many digits, the first product that has");
        for (int columns = 1; columns <= 6; columns++) {
            tooBig(columns, POWERS[columns - 1], 100);
        }
    }

    private static void halvesThatMakeADigitMore() {
        Check.sentence("Promise 12: fault 3 if it has too many digits, by a half");
        for (int columns = 1; columns <= 5; columns++) {
            tooBig(columns, POWERS[columns + 1] - 5, 1);
        }
        // 9999995
        tooBig(6, 588235, 17);
    }

    private static void theGreatestFactors() {
        Check.sentence("Promise 12: fault 3, with the greatest factors");
        for (int columns = 1; columns <= 4; columns++) {
            CardOffice x = Desk.officeWith(0, "999999999999");
            Check.due("gone through", 0, x.multiply(0, field(0, 6), field(6, 6), field(12, columns)));
            Check.due("fault", "3 at 0", Desk.fault(x));
            Check.due("deck", "999999999999", Desk.deck(x, 0));
        }
        CardOffice y = Desk.officeWith(0, "999999");
        Check.due("gone through", 0, y.multiply(0, field(0, 6), field(0, 6), field(10, 6)));
        Check.due("fault", "3 at 0", Desk.fault(y));
    }

    private static void productsThatWrapInAnInt() {
        Check.sentence("Promise 12: fault 3, with a product that is no int");
        // Their squares are a little more than half the range of ints, the range, and twice the range.
        for (int number : new int[] {46341, 65536, 92682}) {
            CardOffice x = Desk.officeWith(0, told(number, 6));
            Check.due("gone through", 0, x.multiply(0, field(0, 6), field(0, 6), field(10, 6)));
            Check.due("the square of " + number, "3 at 0", Desk.fault(x));
        }
    }

    private static void factorsThatAreNoDigits() {
        Check.sentence("Promise 12: fault 1 if a sign in one of the first two is neither a digit 0 .. 9 nor a blank");
        for (char sign : "AIJRSZ".toCharArray()) {
            for (int column = 0; column < 10; column++) {
                StringBuilder text = new StringBuilder("0000010001");
                text.setCharAt(column, sign);
                CardOffice x = Desk.officeWith(0, text.toString());
                Check.due("gone through", 0, run(x, 6));
                Check.due("fault of " + text, "1 at 0", Desk.fault(x));
                Check.due("deck", text.toString(), Desk.deck(x, 0));
            }
        }
        CardOffice y = Desk.officeWith(0, "A000010001Z");
        Check.due("beside the fields", 1, y.multiply(0, field(1, 5), field(6, 4), field(11, 5)));
    }

    private static void signsInTheProduct() {
        Check.sentence("Promise 12: fault 1 if a column of the third has a sign that is neither a blank nor what comes");
        for (String there : new String[] {"012", "0  ", " 1 ", "  2", "   "}) {
            CardOffice x = Desk.officeWith(0, "12 10 " + there);
            Check.due("gone through", 1, x.multiply(0, field(0, 2), field(3, 2), field(6, 3)));
            Check.due("deck", "12 10 012", Desk.deck(x, 0));
        }
        for (String there : new String[] {"112", "013", "002", "1", " 2", "  1", "A", " A", "  B", "  0", "Z12", "0J2"}) {
            CardOffice x = Desk.officeWith(0, "12 10 " + there);
            Check.due("gone through", 0, x.multiply(0, field(0, 2), field(3, 2), field(6, 3)));
            Check.due("fault of " + there, "1 at 0", Desk.fault(x));
            Check.due("deck", "12 10 " + there, Desk.deck(x, 0));
        }
    }

    private static void productNotLookedAtIfTooBig() {
        Check.sentence("Promise 12: fault 1 (if the product has not too many digits)");
        CardOffice x = Desk.officeWith(0, "99 99 AA");
        Check.due("gone through", 0, x.multiply(0, field(0, 2), field(3, 2), field(6, 2)));
        Check.due("fault", "3 at 0", Desk.fault(x));
        Check.due("gone through", 0, x.multiply(0, field(0, 2), field(3, 2), field(6, 3)));
        Check.due("fault, with a column more", "1 at 0", Desk.fault(x));
    }

    private static void leastFault() {
        Check.sentence("Promise 12: of several faults of one card the least number is told");
        for (String text : new String[] {"9A 99", "A9 99", "99 9A", "99 A9"}) {
            CardOffice x = Desk.officeWith(0, text);
            Check.due("gone through", 0, x.multiply(0, field(0, 2), field(3, 2), 6));
            Check.due("fault of " + text, "1 at 0", Desk.fault(x));
        }
    }

    private static void stopsAheadOfACard() {
        Check.sentence("Promise 12: stops ahead of one, of which it does nothing; what was done before stays done");
        CardOffice x = Desk.officeWith(0, "2 5", "4 5", "A 5", "6 5");
        Check.due("gone through", 2, x.multiply(0, 0, 2, field(4, 2)));
        Check.due("fault", "1 at 2", Desk.fault(x));
        Check.due("deck", "2 5 01|4 5 02|A 5|6 5", Desk.deck(x, 0));
    }
}
