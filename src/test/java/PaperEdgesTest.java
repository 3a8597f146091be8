/** The edges of promises 16, 17, 18 and 19: printed, counter, tear, fault. */
public final class PaperEdgesTest {
    public static void main(String[] args) {
        printedAtOuterPlaces();
        printedOfBlankPaper();
        printedOfNoLine();
        printedAtNoPosition();
        printedOfAFullPaper();
        printedOfTornPaper();
        counterOfEach();
        counterAsItIsNow();
        counterOfNone();
        tearOfBlankPaper();
        tearOfAFullPaper();
        tearLeavesTheRest();
        faultAtFirst();
        faultWithout();
        faultIsOver();
        faultAtTheFirstAndTheLastCard();
        faultAtTheEnd();
        faultOfTheLatestMachine();
        faultStaysIfACallThrows();
        faultStaysWithOtherCalls();
        faultOfAnotherWhich();
        Check.end();
    }

    /** A line for each card with blanks between its first and its last position, then the total, a blank line. */
    private static CardOffice threeLines() {
        CardOffice x = Desk.officeWith(0, "A              B", "C              D");
        Desk.wireAll(x, 0, 0, 99, 0, 32, 15, 55);
        x.tabulate(0, 0);
        Check.due("lines", 3, x.count(9));
        return x;
    }

    private static void printedAtOuterPlaces() {
        Check.sentence("Promise 16: the sign at a position of line i of the paper");
        CardOffice x = threeLines();
        Check.due("first line, first position", (int) 'A', x.printed(0, 0));
        Check.due("first line, last position", (int) 'B', x.printed(0, 23));
        Check.due("second line, first position", (int) 'C', x.printed(1, 0));
        Check.due("second line, last position", (int) 'D', x.printed(1, 23));
        Check.due("last line, first position", 32, x.printed(2, 0));
        Check.due("last line, last position", 32, x.printed(2, 23));
        Check.due("between", 32, x.printed(0, 12));
    }

    private static void printedOfBlankPaper() {
        Check.sentence("Promise 16: IndexOutOfBoundsException if there is none such, blank paper");
        CardOffice x = new CardOffice();
        for (int i : new int[] {0, 1, 99, 100, -1}) {
            Check.dueThrow("line " + i, Check.INDEX, () -> x.printed(i, 0));
        }
    }

    private static void printedOfNoLine() {
        Check.sentence("Promise 16: IndexOutOfBoundsException if there is none such, the line");
        CardOffice x = threeLines();
        for (int i : Edges.noneOf(3)) {
            Check.dueThrow("line " + i, Check.INDEX, () -> x.printed(i, 0));
        }
        Check.dueThrow("the last that a paper can have", Check.INDEX, () -> x.printed(99, 0));
    }

    private static void printedAtNoPosition() {
        Check.sentence("Promise 16: IndexOutOfBoundsException if there is none such, the position");
        CardOffice x = threeLines();
        for (int position : Edges.NO_POSITIONS) {
            Check.dueThrow("position " + position, Check.INDEX, () -> x.printed(0, position));
            Check.dueThrow("position " + position + " of no line", Check.INDEX, () -> x.printed(3, position));
        }
    }

    private static void printedOfAFullPaper() {
        Check.sentence("Promise 16: line i, of a full paper");
        CardOffice x = new CardOffice();
        Edges.printBlankLines(x, 100);
        Check.due("the last line", 32, x.printed(99, 23));
        Check.dueThrow("the one behind it", Check.INDEX, () -> x.printed(100, 0));
    }

    private static void printedOfTornPaper() {
        Check.sentence("Promise 18: the paper is torn off, blank paper comes");
        CardOffice x = threeLines();
        Check.due("tear", 3, x.tear());
        Check.dueThrow("the first line", Check.INDEX, () -> x.printed(0, 0));
        x.tabulate(1, 0);
        Check.due("lines", 1, x.count(9));
        Check.due("the first line is a new one", "", Desk.line(x, 0));
        Check.dueThrow("the second line", Check.INDEX, () -> x.printed(1, 0));
    }

    /** Counters 1, 22, 333, 4444, left by a fault at the end. */
    private static CardOffice fourCounters() {
        CardOffice x = Desk.officeWith(0, "1234");
        Desk.wireAll(x, 0, 0, 64, 1, 70, 1, 71, 2, 76, 2, 77, 2, 78, 3, 82, 3, 83, 3, 84, 3, 85, 32, 32, 38, 32);
        x.tabulate(0, 0);
        return x;
    }

    private static void counterOfEach() {
        Check.sentence("Promise 17: a counter, 0 .. 3");
        CardOffice x = fourCounters();
        Check.due("counter 0", 1, x.counter(0));
        Check.due("counter 1", 22, x.counter(1));
        Check.due("counter 2", 333, x.counter(2));
        Check.due("counter 3", 4444, x.counter(3));
    }

    private static void counterAsItIsNow() {
        Check.sentence("Promise 17: as it is now");
        CardOffice x = new CardOffice();
        Check.due("at first", "0 0 0 0", Desk.counters(x));
        CardOffice y = fourCounters();
        y.strip(0);
        y.tear();
        y.level(0, 0, 0);
        y.cut(0, 1, 1);
        y.reproduce(0, 1, 2);
        y.gang(0, 1, 0);
        y.multiply(1, 0, 1, 5);
        Check.due("other calls leave them", "1 22 333 4444", Desk.counters(y));
        y.tabulate(0, 1);
        Check.due("behind the last totals", "0 0 0 0", Desk.counters(y));
    }

    private static void counterOfNone() {
        Check.sentence("Promise 17: IndexOutOfBoundsException if there is no such one");
        CardOffice x = fourCounters();
        for (int c : Edges.NO_COUNTERS) {
            Check.dueThrow("counter " + c, Check.INDEX, () -> x.counter(c));
        }
    }

    private static void tearOfBlankPaper() {
        Check.sentence("Promise 18: how many lines it had, none");
        CardOffice x = new CardOffice();
        Check.due("tear", 0, x.tear());
        Check.due("tear again", 0, x.tear());
    }

    private static void tearOfAFullPaper() {
        Check.sentence("Promise 18: how many lines it had, 100");
        CardOffice x = new CardOffice();
        Edges.printBlankLines(x, 100);
        Check.due("tear", 100, x.tear());
        Check.due("lines", 0, x.count(9));
        Check.due("tear again", 0, x.tear());
        x.tabulate(0, 7);
        Check.due("there is room again", 1, x.tear());
    }

    private static void tearLeavesTheRest() {
        Check.sentence("Promise 18: the paper is torn off, and nothing else");
        CardOffice x = fourCounters();
        x.tear();
        Check.due("counters", "1 22 333 4444", Desk.counters(x));
        Check.due("fault", "2 at 1", Desk.fault(x));
        Check.due("wires", 12, x.count(10));
        Check.due("deck", "1234", Desk.deck(x, 0));
    }

    private static void faultAtFirst() {
        Check.sentence("Promise 19: 0 and NONE if there was none");
        CardOffice x = new CardOffice();
        Check.due("which 0", 0, x.fault(0));
        Check.due("which 1", CardOffice.NONE, x.fault(1));
        Check.dueThrow("tabulate", Check.ARGUMENT, () -> x.tabulate(4, 0));
        x.pass(0, 0, false);
        Check.due("which 0 behind a call that threw", 0, x.fault(0));
        Check.due("which 1 behind a call that threw", CardOffice.NONE, x.fault(1));
    }

    /** Card 0 is without fault in each of the four machines, card 1 has one. */
    private static CardOffice oneGoodOneBad() {
        CardOffice x = Desk.officeWith(0, "K1122", "A1123");
        Desk.wireAll(x, 0, 3, 8, 4, 8, 0, 99, 3, 32, 4, 32);
        Desk.wireAll(x, 1, 17, 1, 18, 2);
        return x;
    }

    private static void faultWithout() {
        Check.sentence("Promise 19: which 0: the fault, 0 without, 1: NONE without");
        for (int machine = 0; machine < 4; machine++) {
            CardOffice x = oneGoodOneBad();
            x.reproduce(0, 0, 1);
            Check.due("fault ahead", "2 at 1", Desk.fault(x));
            runOnEmptyDeck(x, machine);
            Check.due("which 0 of machine " + machine, 0, x.fault(0));
            Check.due("which 1 of machine " + machine, CardOffice.NONE, x.fault(1));
        }
    }

    private static void runOnEmptyDeck(CardOffice x, int machine) {
        switch (machine) {
            case 0:
                x.reproduce(0, 7, 6);
                break;
            case 1:
                x.gang(0, 7, 0);
                break;
            case 2:
                x.multiply(7, 0, 1, 2);
                break;
            default:
                x.tabulate(0, 7);
                break;
        }
    }

    private static void faultIsOver() {
        Check.sentence("Promise 19: of the latest, a run without a fault behind one with fault 2");
        CardOffice x = Desk.officeWith(0, "K12", "");
        Desk.putAll(x, 1, "K11", "");
        // Both columns at a column, at a position and at an entry; two counters at one position.
        Desk.wireAll(x, 0, 1, 8, 2, 8);
        Desk.wireAll(x, 1, 0, 99, 1, 32, 2, 32);
        Desk.wireAll(x, 2, 1, 64, 2, 64);
        Desk.wireAll(x, 3, 1, 64, 2, 70, 32, 32, 38, 32);
        Check.due("reproduce", 0, x.reproduce(0, 0, 2));
        Check.due("reproduce another deck", 2, x.reproduce(0, 1, 2));
        Check.due("fault", "0 at -1", Desk.fault(x));
        Check.due("gang", 1, x.gang(0, 0, 0));
        Check.due("gang another deck", 2, x.gang(0, 1, 0));
        Check.due("fault", "0 at -1", Desk.fault(x));
        for (int board = 1; board <= 3; board++) {
            Check.due("tabulate by board " + board, board == 3 ? 2 : 0, x.tabulate(board, 0));
            Check.due("fault", 2, x.fault(0));
            Check.due("tabulate another deck", 2, x.tabulate(board, 1));
            Check.due("fault", "0 at -1", Desk.fault(x));
        }
    }

    private static void faultAtTheFirstAndTheLastCard() {
        Check.sentence("Promise 19: 1: the place of the card in its deck");
        CardOffice x = Desk.officeWith(3, "A1");
        x.multiply(3, 0, 1, 2);
        Check.due("the first", "1 at 0", Desk.fault(x));
        CardOffice y = Edges.officeOf(199, "11");
        Desk.putAll(y, 0, "A1");
        Check.due("gone through", 199, y.multiply(0, 0, 1, 2));
        Check.due("the last of 200", "1 at 199", Desk.fault(y));
    }

    private static void faultAtTheEnd() {
        Check.sentence("Promise 19: as many as there are for one at the end");
        for (int cards : new int[] {1, 2, 200}) {
            CardOffice x = Edges.officeOf(cards, "12");
            Desk.wireAll(x, 0, 17, 64, 32, 32, 50, 33, 34, 33);
            Check.due("gone through", cards, x.tabulate(0, 0));
            Check.due("fault", "2 at " + cards, Desk.fault(x));
        }
    }

    private static void faultOfTheLatestMachine() {
        Check.sentence("Promise 19: of the latest reproduce(), gang(), multiply() or tabulate()");
        CardOffice x = oneGoodOneBad();
        Check.due("reproduce", 1, x.reproduce(0, 0, 1));
        Check.due("fault of reproduce", "2 at 1", Desk.fault(x));
        Check.due("gang", 1, x.gang(1, 0, 0));
        Check.due("fault of gang", "1 at 1", Desk.fault(x));
        Check.due("multiply", 0, x.multiply(0, 1, 0, 9));
        Check.due("fault of multiply", "1 at 0", Desk.fault(x));
        Check.due("tabulate", 1, x.tabulate(0, 0));
        Check.due("fault of tabulate", "2 at 1", Desk.fault(x));
        Check.due("multiply", 2, x.multiply(0, 1, 2, 9));
        Check.due("fault of multiply", "0 at -1", Desk.fault(x));
    }

    private static void faultStaysIfACallThrows() {
        Check.sentence("Promise 19: that did not throw");
        CardOffice x = oneGoodOneBad();
        x.reproduce(0, 0, 1);
        Check.dueThrow("reproduce", Check.ARGUMENT, () -> x.reproduce(0, 0, 0));
        Check.due("fault behind reproduce", "2 at 1", Desk.fault(x));
        Check.dueThrow("gang", Check.ARGUMENT, () -> x.gang(0, 0, 16));
        Check.due("fault behind gang", "2 at 1", Desk.fault(x));
        Check.dueThrow("multiply", Check.ARGUMENT, () -> x.multiply(0, 0, 1, 1));
        Check.due("fault behind multiply", "2 at 1", Desk.fault(x));
        Check.dueThrow("tabulate", Check.ARGUMENT, () -> x.tabulate(0, 8));
        Check.due("fault behind tabulate", "2 at 1", Desk.fault(x));
    }

    private static void faultStaysWithOtherCalls() {
        Check.sentence("Promise 19: of the latest reproduce(), gang(), multiply() or tabulate(), no other call");
        CardOffice x = oneGoodOneBad();
        x.reproduce(0, 0, 1);
        Desk.putAll(x, 0, "1");
        x.pass(0, 0, false);
        x.sort(0, 0, 15);
        x.merge(0, 7, 0, 15);
        x.match(0, 7, 6, 0, 15);
        x.cut(0, 1, 5);
        x.level(0, 0, 0);
        x.strip(0);
        x.tear();
        x.count(0);
        x.counter(0);
        x.sign(0, 0, 0);
        Check.due("fault", "2 at 1", Desk.fault(x));
    }

    private static void faultOfAnotherWhich() {
        Check.sentence("Promise 19: NONE for another which");
        CardOffice x = oneGoodOneBad();
        for (int which : Edges.noneOf(2)) {
            Check.due("which " + which, CardOffice.NONE, x.fault(which));
        }
        x.reproduce(0, 0, 1);
        for (int which : Edges.noneOf(2)) {
            Check.due("which " + which + " behind a fault", CardOffice.NONE, x.fault(which));
        }
    }
}
