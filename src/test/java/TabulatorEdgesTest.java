/** The edges of promise 13 and of the tabulator's terms, but for its faults. */
public final class TabulatorEdgesTest {
    private static final String SIGNS = " 0123456789STUVWXYZJKLMNOPQRABCDEFGHI";
    private static final String DIGITS = "00123456789" + "23456789" + "123456789" + "123456789";

    public static void main(String[] args) {
        byNoBoard();
        ofNoDeck();
        anEmptyDeck();
        oneCard();
        twoHundredCards();
        aBareBoard();
        aFullBoard();
        countersAreZeroAtTheBeginning();
        countersAreZeroWithAnEmptyDeck();
        theFirstCardBreaksNone();
        controlOfEachLevel();
        controlInOuterColumns();
        controlByAnySign();
        controlByTheCardAhead();
        controlFromDigitsAndExits();
        aBreakBehindTheFirstCard();
        totalsInOrder();
        levelThreeAtTheEndAlone();
        levelsWithoutACounter();
        oneLineForAllCountersOfALevel();
        zerosAndBlanksOfEachWheel();
        everyExitAndPosition();
        totalsMakeCountersZero();
        otherCountersGoOn();
        listByAnything();
        noListNoLines();
        listedSigns();
        listedAtOuterPositions();
        everyEntry();
        countedSigns();
        countedOnceByTwoWires();
        countedInEveryWheel();
        positionsWithoutAWire();
        exitsInTotalsAlone();
        columnsInLinesAlone();
        wiresThatDoNothing();
        cardsStayAsTheyAre();
        Check.end();
    }

    private static void done(CardOffice x, int cards, int answer) {
        Check.due("gone through", cards, answer);
        Check.due("fault", "0 at -1", Desk.fault(x));
    }

    private static void byNoBoard() {
        Check.sentence("Promise 13: IllegalArgumentException if there is no such board");
        CardOffice x = Desk.officeWith(0, "1");
        for (int board : Edges.NO_BOARDS) {
            Check.dueThrow("board " + board, Check.ARGUMENT, () -> x.tabulate(board, 0));
        }
        Check.due("lines", 0, x.count(9));
        for (int board = 0; board < 4; board++) {
            done(x, 1, x.tabulate(board, 0));
        }
    }

    private static void ofNoDeck() {
        Check.sentence("Promise 13: IllegalArgumentException if there is no such deck");
        CardOffice x = new CardOffice();
        for (int deck : Edges.NO_DECKS) {
            Check.dueThrow("deck " + deck, Check.ARGUMENT, () -> x.tabulate(0, deck));
        }
        for (int deck = 0; deck < 8; deck++) {
            Desk.putAll(x, deck, "1");
            done(x, 1, x.tabulate(0, deck));
        }
    }

    private static void anEmptyDeck() {
        Check.sentence("Terms: behind the last card (if there was one), there was none");
        CardOffice x = new CardOffice();
        Desk.wireAll(x, 0, 0, 99, 16, 32, 17, 32, 16, 64, 17, 64, 32, 40, 16, 96);
        Edges.aLevelForEach(x, 0);
        done(x, 0, x.tabulate(0, 0));
        Check.due("lines", 0, x.count(9));
    }

    private static void oneCard() {
        Check.sentence("Terms: behind the last card come the totals of levels 0 to 3, behind one card");
        CardOffice x = Desk.officeWith(0, "5");
        Desk.wireAll(x, 0, 0, 64, 0, 70, 0, 76, 0, 82, 32, 32, 38, 33, 44, 34, 50, 35);
        Edges.aLevelForEach(x, 0);
        done(x, 1, x.tabulate(0, 0));
        Check.due("paper", "5| 5|  5|   5", Desk.paper(x));
        Check.due("counters", "0 0 0 0", Desk.counters(x));
    }

    private static void twoHundredCards() {
        Check.sentence("Promise 13: how many cards were gone through, 200");
        CardOffice x = Edges.officeOf(200, "1");
        Desk.wireAll(x, 0, 0, 64, 34, 32, 33, 33, 32, 34);
        done(x, 200, x.tabulate(0, 0));
        Check.due("paper", "200", Desk.paper(x));
    }

    private static void aBareBoard() {
        Check.sentence("Promise 13: with a board, a bare one");
        CardOffice x = Desk.officeWith(0, "1", "2");
        done(x, 2, x.tabulate(2, 0));
        Check.due("one line, blank", "", Desk.paper(x));
        Check.due("lines", 1, x.count(9));
    }

    private static void aFullBoard() {
        Check.sentence("Promise 13: with a board, a full one");
        CardOffice x = Desk.officeWith(0, "123", "456");
        Desk.wireAll(x, 0, 0, 99, 2, 64, 2, 70, 1, 65, 1, 71, 0, 66, 0, 72);
        for (int k = 0; k < 11; k++) {
            Desk.wireAll(x, 0, 0, 32 + k, 1, 43 + k);
        }
        Desk.wireAll(x, 0, 34, 32, 33, 33, 32, 34, 40, 35, 39, 36, 38, 37, 37, 38, 43, 39, 0, 5, 1, 5, 2, 55);
        Check.due("wires", 40, x.count(10));
        done(x, 2, x.tabulate(0, 0));
        Check.due("paper", "1111111111122222222222 3|4444444444455555555555 6|579579", Desk.paper(x));
    }

    /** A run that ends with a fault at the end, so that counters are left as they were. */
    private static CardOffice withCountersLeft() {
        CardOffice x = Desk.officeWith(0, "12", "34");
        Desk.wireAll(x, 0, 0, 64, 1, 70, 0, 77, 1, 83, 32, 32, 38, 32);
        x.tabulate(0, 0);
        Check.due("counters", "4 6 40 60", Desk.counters(x));
        return x;
    }

    private static void countersAreZeroAtTheBeginning() {
        Check.sentence("Terms: counters are 0 at the beginning");
        CardOffice x = withCountersLeft();
        x.tabulate(0, 0);
        Check.due("counters, not counted on", "4 6 40 60", Desk.counters(x));
        x.tabulate(1, 0);
        Check.due("counters by a bare board", "0 0 0 0", Desk.counters(x));
    }

    private static void countersAreZeroWithAnEmptyDeck() {
        Check.sentence("Terms: counters are 0 at the beginning, of an empty deck too");
        CardOffice x = withCountersLeft();
        done(x, 0, x.tabulate(0, 1));
        Check.due("counters", "0 0 0 0", Desk.counters(x));
    }

    /** Counter c has level c and counts cards; its exit is at position c. */
    private static CardOffice countingCards(String... texts) {
        CardOffice x = Desk.officeWith(0, texts);
        Desk.wireAll(x, 0, 17, 64, 17, 70, 17, 76, 17, 82, 32, 32, 38, 33, 44, 34, 50, 35);
        Edges.aLevelForEach(x, 0);
        return x;
    }

    private static void theFirstCardBreaksNone() {
        Check.sentence("Terms: the first card breaks none");
        for (String first : new String[] {"", "0", "A"}) {
            CardOffice x = countingCards(first, first);
            Desk.wireAll(x, 0, 0, 96, 0, 97, 0, 98);
            done(x, 2, x.tabulate(0, 0));
            Check.due("paper", "2| 2|  2|   2", Desk.paper(x));
            done(x, 2, x.tabulate(0, 0));
            Check.due("a second run's first card", "2| 2|  2|   2|2| 2|  2|   2", Desk.paper(x));
        }
    }

    private static void controlOfEachLevel() {
        Check.sentence("Terms: a level breaks if in a column that is wired to control of it, or of a higher one");
        String[] due = {"1", "1| 1", "1| 1|  1"};
        String[] end = {"1| 2|  2|   2", "1| 1|  2|   2", "1| 1|  1|   2"};
        for (int level = 0; level < 3; level++) {
            CardOffice x = countingCards("1", "2");
            Desk.wireAll(x, 0, 0, 96 + level);
            done(x, 2, x.tabulate(0, 0));
            Check.due("control of level " + level, due[level] + "|" + end[level], Desk.paper(x));
        }
    }

    private static void controlInOuterColumns() {
        Check.sentence("Terms: in a column that is wired to control, 0 and 15");
        for (int column : new int[] {0, 15}) {
            CardOffice x = countingCards("A              A", "B              A", "B              B", "B              B");
            Desk.wireAll(x, 0, column, 96);
            done(x, 4, x.tabulate(0, 0));
            String due = column == 0 ? "1|3" : "2|2";
            Check.due("column " + column, due + "| 4|  4|   4", Desk.paper(x));
        }
    }

    private static void controlByAnySign() {
        Check.sentence("Terms: the sign is another than on the card ahead");
        for (int k = 0; k < SIGNS.length(); k++) {
            String sign = SIGNS.substring(k, k + 1);
            String next = SIGNS.substring((k + 1) % SIGNS.length()).substring(0, 1);
            CardOffice x = countingCards(sign, sign, next);
            Desk.wireAll(x, 0, 0, 96);
            done(x, 3, x.tabulate(0, 0));
            Check.due(sign + " and " + next, "2|1| 3|  3|   3", Desk.paper(x));
        }
        CardOffice y = countingCards("A", "J", "1");
        Desk.wireAll(y, 0, 0, 96);
        done(y, 3, y.tabulate(0, 0));
        Check.due("signs of one digit differ", "1|1|1| 3|  3|   3", Desk.paper(y));
    }

    private static void controlByTheCardAhead() {
        Check.sentence("Terms: another than on the card ahead, not than on one ahead of that");
        CardOffice x = countingCards("1", "2", "2", "1");
        Desk.wireAll(x, 0, 0, 96);
        done(x, 4, x.tabulate(0, 0));
        Check.due("paper", "1|2|1| 4|  4|   4", Desk.paper(x));
    }

    private static void controlFromDigitsAndExits() {
        Check.sentence("Terms: in a column that is wired to control, not a digit or an exit");
        CardOffice x = countingCards("1", "2");
        Desk.wireAll(x, 0, 16, 96, 17, 96, 25, 98, 32, 96, 33, 97, 55, 98);
        done(x, 2, x.tabulate(0, 0));
        Check.due("paper", "2| 2|  2|   2", Desk.paper(x));
    }

    private static void aBreakBehindTheFirstCard() {
        Check.sentence("Terms: for each card of a deck a level breaks, the second and the last");
        CardOffice x = countingCards("1", "2", "2");
        Desk.wireAll(x, 0, 0, 96);
        done(x, 3, x.tabulate(0, 0));
        Check.due("the second", "1|2| 3|  3|   3", Desk.paper(x));
        CardOffice y = countingCards("1", "1", "2");
        Desk.wireAll(y, 0, 0, 96);
        done(y, 3, y.tabulate(0, 0));
        Check.due("the last", "2|1| 3|  3|   3", Desk.paper(y));
    }

    private static void totalsInOrder() {
        Check.sentence("Terms: for levels 0, 1, 2, as far as they break, in order");
        CardOffice x = Desk.officeWith(0, "1", "2");
        Desk.wireAll(x, 0, 17, 64, 17, 70, 17, 76, 17, 82, 32, 32, 38, 33, 44, 34, 50, 35, 0, 98);
        for (int counter = 0; counter < 4; counter++) {
            x.level(0, counter, 3 - counter);
        }
        done(x, 2, x.tabulate(0, 0));
        Check.due("paper", "   1|  1| 1|   1|  1| 1|2", Desk.paper(x));
    }

    private static void levelThreeAtTheEndAlone() {
        Check.sentence("Terms: for levels 0, 1, 2; the total of level 3 comes behind the last card alone");
        CardOffice x = Desk.officeWith(0, "1", "2", "3");
        Desk.wireAll(x, 0, 17, 64, 32, 32, 0, 96, 0, 97, 0, 98);
        done(x, 3, x.tabulate(0, 0));
        Check.due("paper", "3", Desk.paper(x));
    }

    private static void levelsWithoutACounter() {
        Check.sentence("Terms: if a counter has that level, a line");
        for (int level = 0; level < 4; level++) {
            CardOffice x = Desk.officeWith(0, "1", "2");
            Desk.wireAll(x, 0, 0, 98, 17, 64, 32, 32);
            for (int counter = 0; counter < 4; counter++) {
                x.level(0, counter, level);
            }
            done(x, 2, x.tabulate(0, 0));
            Check.due("all counters have level " + level, level == 3 ? "2" : "1|1", Desk.paper(x));
        }
        for (int counter = 0; counter < 4; counter++) {
            CardOffice x = Desk.officeWith(0, "1", "2");
            Desk.wireAll(x, 0, 0, 98, 17, 64 + 6 * counter, 32 + 6 * counter, 32);
            x.level(0, counter, 2);
            done(x, 2, x.tabulate(0, 0));
            Check.due("counter " + counter + " alone has level 2", "1|1|", Desk.paper(x));
        }
    }

    private static void oneLineForAllCountersOfALevel() {
        Check.sentence("Terms: a line with, at each position wired from an exit of such a counter");
        CardOffice x = Desk.officeWith(0, "1", "2");
        Desk.wireAll(x, 0, 0, 96, 0, 64, 0, 70, 0, 76, 0, 82, 32, 35, 38, 34, 44, 33, 50, 32, 32, 55);
        x.level(0, 0, 0);
        x.level(0, 2, 0);
        done(x, 2, x.tabulate(0, 0));
        String blanks = " ".repeat(19);
        Check.due("paper", " 1 1" + blanks + "1| 2 2" + blanks + "2|3 3", Desk.paper(x));
    }

    private static void zerosAndBlanksOfEachWheel() {
        Check.sentence("Terms: a blank in place of a 0 with nothing but 0 in the higher wheels, if it is not wheel 0");
        String[] numbers = {
            "000000", "000001", "000010", "000100", "001000", "010000", "100000",
            "000009", "000090", "009000", "900000", "900009", "090090", "001001", "999999"
        };
        for (String number : numbers) {
            CardOffice x = Desk.officeWith(0, number);
            for (int wheel = 0; wheel < 6; wheel++) {
                Desk.wireAll(x, 0, 5 - wheel, 82 + wheel, 50 + wheel, 55 - wheel);
            }
            done(x, 1, x.tabulate(0, 0));
            String due = String.format("%24d", Integer.parseInt(number));
            Check.due("total of " + number, due, Desk.paper(x));
        }
    }

    private static void everyExitAndPosition() {
        Check.sentence("Terms: 32 + 6 c + w is wheel w of counter c; 32 .. 55 the print positions 0 .. 23");
        for (int exit = 0; exit < 24; exit++) {
            CardOffice x = Desk.officeWith(0, "654321");
            Desk.wireAll(x, 0, 32 + exit, 55 - exit);
            int counter = exit / 6;
            for (int wheel = 0; wheel < 6; wheel++) {
                Desk.wireAll(x, 0, 5 - wheel, 64 + 6 * counter + wheel);
            }
            done(x, 1, x.tabulate(0, 0));
            Check.due("exit " + exit, " ".repeat(23 - exit) + (exit % 6 + 1), Desk.paper(x));
        }
    }

    private static void totalsMakeCountersZero() {
        Check.sentence("Terms: then these counters are 0");
        CardOffice x = Desk.officeWith(0, "19", "29", "29");
        Desk.wireAll(x, 0, 0, 96, 1, 69, 1, 70, 1, 65);
        x.level(0, 0, 0);
        Check.due("a counter without a wire at its exits is 0 too", 2, x.tabulate(0, 0));
        Check.due("fault", "3 at 2", Desk.fault(x));
        Check.due("counters", "900090 18 0 0", Desk.counters(x));
    }

    private static void otherCountersGoOn() {
        Check.sentence("Terms: these counters, and no other ones");
        CardOffice x = Desk.officeWith(0, "1", "2", "3");
        Desk.wireAll(x, 0, 0, 96, 0, 64, 0, 70, 32, 32, 38, 32, 38, 33);
        x.level(0, 0, 0);
        done(x, 3, x.tabulate(0, 0));
        Check.due("paper", "1|2|3|66", Desk.paper(x));
    }

    private static void listByAnything() {
        Check.sentence("Terms: if anything is wired to list");
        for (int from : new int[] {0, 15, 16, 25, 32, 55}) {
            CardOffice x = Desk.officeWith(0, "A", "B");
            Desk.wireAll(x, 0, 0, 32, from, 99);
            done(x, 2, x.tabulate(0, 0));
            Check.due("from " + from, "A|B|", Desk.paper(x));
        }
    }

    private static void noListNoLines() {
        Check.sentence("Terms: if anything is wired to list, nothing is");
        CardOffice x = Desk.officeWith(0, "A", "A");
        Desk.wireAll(x, 0, 0, 32, 0, 98, 0, 55, 17, 64);
        Desk.wireAll(x, 1, 0, 99);
        done(x, 2, x.tabulate(0, 0));
        Check.due("the line of level 3 alone", 1, x.count(9));
        Check.due("paper", "", Desk.paper(x));
    }

    private static void listedSigns() {
        Check.sentence("Terms: at each position wired from a column or a digit, that sign");
        CardOffice x = Desk.officeWith(0, SIGNS.split(""));
        Desk.wireAll(x, 0, 0, 99, 0, 32, 16, 33, 25, 34);
        done(x, SIGNS.length(), x.tabulate(0, 0));
        for (int i = 0; i < SIGNS.length(); i++) {
            Check.due("the column in line " + i, (int) SIGNS.charAt(i), x.printed(i, 0));
            Check.due("the digit 0 in line " + i, (int) '0', x.printed(i, 1));
            Check.due("the digit 9 in line " + i, (int) '9', x.printed(i, 2));
        }
    }

    private static void listedAtOuterPositions() {
        Check.sentence("Terms: print positions 0 and 23, columns 0 and 15");
        CardOffice x = Desk.officeWith(0, "A              P");
        Desk.wireAll(x, 0, 0, 99, 15, 32, 0, 55);
        done(x, 1, x.tabulate(0, 0));
        Check.due("line", "P" + " ".repeat(22) + "A", Desk.line(x, 0));
    }

    private static void everyEntry() {
        Check.sentence("Terms: entries of counters: 64 + 6 c + w; times 10 to the wheel's power");
        for (int entry = 0; entry < 24; entry++) {
            CardOffice x = Desk.officeWith(0, "7");
            Desk.wireAll(x, 0, 0, 64 + entry);
            for (int exit = 0; exit < 24; exit++) {
                Desk.wireAll(x, 0, 32 + exit, 32 + exit);
            }
            done(x, 1, x.tabulate(0, 0));
            StringBuilder due = new StringBuilder("0     0     0     0     ");
            for (int place = entry - entry % 6; place < entry; place++) {
                due.setCharAt(place, '0');
            }
            due.setCharAt(entry, '7');
            Check.due("entry " + entry, due.toString().stripTrailing(), Desk.paper(x));
        }
    }

    private static void countedSigns() {
        Check.sentence("Terms: the sign's digit (none counts 0)");
        for (int k = 0; k < SIGNS.length(); k++) {
            CardOffice x = Desk.officeWith(0, SIGNS.substring(k, k + 1));
            Desk.wireAll(x, 0, 0, 64, 32, 32);
            done(x, 1, x.tabulate(0, 0));
            Check.due("sign " + SIGNS.charAt(k), DIGITS.substring(k, k + 1), Desk.paper(x));
        }
        for (int digit = 0; digit <= 9; digit++) {
            CardOffice x = Desk.officeWith(0, "");
            Desk.wireAll(x, 0, 16 + digit, 64, 32, 32);
            done(x, 1, x.tabulate(0, 0));
            Check.due("digit " + digit, "" + digit, Desk.paper(x));
        }
    }

    private static void countedOnceByTwoWires() {
        Check.sentence("Terms: for each of its entries that is wired, once by two wires that bring one sign");
        CardOffice x = Desk.officeWith(0, "44");
        Desk.wireAll(x, 0, 0, 64, 1, 64, 20, 64, 33, 32, 32, 33);
        done(x, 1, x.tabulate(0, 0));
        Check.due("paper", " 4", Desk.paper(x));
    }

    private static void countedInEveryWheel() {
        Check.sentence("Terms: to each counter comes, for each of its entries, all six");
        CardOffice x = Desk.officeWith(0, "123456", "111111");
        for (int wheel = 0; wheel < 6; wheel++) {
            Desk.wireAll(x, 0, 5 - wheel, 64 + wheel, 5 - wheel, 82 + wheel, 32 + wheel, 37 - wheel, 50 + wheel, 43 - wheel);
        }
        done(x, 2, x.tabulate(0, 0));
        Check.due("paper", "234567234567", Desk.paper(x));
    }

    private static void positionsWithoutAWire() {
        Check.sentence("Terms: positions that nothing is wired to are blank");
        CardOffice x = Desk.officeWith(0, "7777");
        Desk.wireAll(x, 0, 0, 99);
        for (int position = 0; position < 24; position++) {
            Desk.wireAll(x, 0, 0, 32 + position);
        }
        x.tabulate(0, 0);
        x.tear();
        x.strip(0);
        Desk.wireAll(x, 0, 0, 99, 0, 44);
        x.tabulate(0, 0);
        for (int position = 0; position < 24; position++) {
            Check.due("position " + position, position == 12 ? (int) '7' : 32, x.printed(0, position));
        }
        Check.due("the total", "", Desk.line(x, 1));
    }

    private static void exitsInTotalsAlone() {
        Check.sentence("Terms: wires from exits count in totals alone");
        CardOffice x = Desk.officeWith(0, "12", "34");
        Desk.wireAll(x, 0, 15, 99, 0, 64, 32, 32, 32, 70, 32, 76, 38, 76, 38, 33);
        done(x, 2, x.tabulate(0, 0));
        Check.due("paper", "||40", Desk.paper(x));
    }

    private static void columnsInLinesAlone() {
        Check.sentence("Terms: wires from columns and digits count in lines of cards and in counting alone");
        CardOffice x = Desk.officeWith(0, "12", "34");
        Desk.wireAll(x, 0, 15, 99, 0, 64, 32, 32, 1, 32, 25, 33);
        done(x, 2, x.tabulate(0, 0));
        Check.due("paper", "29|49|4", Desk.paper(x));
    }

    private static void wiresThatDoNothing() {
        Check.sentence("Terms: columns that are punched have no part in the tabulator");
        CardOffice x = Desk.officeWith(0, "12", "34");
        Desk.wireAll(x, 0, 0, 0, 1, 0, 16, 15, 17, 15, 32, 7, 38, 7);
        done(x, 2, x.tabulate(0, 0));
        Check.due("paper", "", Desk.paper(x));
    }

    private static void cardsStayAsTheyAre() {
        Check.sentence("Promise 13: cards are read, and stay as they are");
        CardOffice x = Desk.officeWith(0, "21", "A", "");
        Desk.wireAll(x, 0, 0, 99, 0, 32, 0, 64, 0, 96, 0, 5);
        done(x, 3, x.tabulate(0, 0));
        Check.due("deck", "21|A|", Desk.deck(x, 0));
        Check.due("cards in all", 3, x.count(8));
    }
}
