/** Promises 13, 16, 17 and 18: tabulate with its faults, printed, counter, tear. */
public final class TabulatorTest {
    private static final int MIN = Integer.MIN_VALUE;
    private static final int MAX = Integer.MAX_VALUE;

    public static void main(String[] args) {
        listsCards();
        countsDigits();
        blanksAheadOfNumbers();
        levelsInOrder();
        controlByColumnsAlone();
        countersWithoutALine();
        anEmptyDeck();
        clashInLines();
        clashInEntries();
        clashInTotals();
        clashInLastTotals();
        wiresThatDoNotCount();
        tooBig();
        totalsMakeRoomInCounters();
        noRoomForACard();
        totalsThatDoNotComeNeedNoRoom();
        noRoomForLastTotals();
        leastFault();
        countersBeginAtZero();
        tearing();
        refused();
        Check.end();
    }

    private static void noLevelThree(CardOffice office, int board, int level) {
        for (int counter = 0; counter < 4; counter++) {
            office.level(board, counter, level);
        }
    }

    private static void listsCards() {
        CardOffice x = Desk.officeWith(0, "AB", "  C", "9");
        Desk.wireAll(x, 0, 15, 99, 0, 32, 2, 55, 23, 34);
        Check.due("gone through", 3, x.tabulate(0, 0));
        Check.due("paper", "A 7|  7                    C|9 7|", Desk.paper(x));
        Check.due("a position without a wire", 32, x.printed(0, 1));
        CardOffice y = Desk.officeWith(0, "AB", "C");
        Desk.wireAll(y, 0, 0, 32);
        Check.due("gone through", 2, y.tabulate(0, 0));
        Check.due("nothing at LIST, no lines of cards", 1, y.count(9));
        for (int from : new int[] {0, 20, 40}) {
            CardOffice z = Desk.officeWith(0, "AB", "C");
            Desk.wireAll(z, 0, 0, 32, from, 99);
            Check.due("gone through", 2, z.tabulate(0, 0));
            Check.due("anything at LIST", "A|C|", Desk.paper(z));
        }
    }

    private static void countsDigits() {
        CardOffice x = Desk.officeWith(0, "12A", "ZRI", "  0", "4 S", "9J1");
        Desk.wireAll(x, 0, 0, 66, 1, 65, 2, 64, 17, 75, 18, 70, 2, 82, 0, 86);
        Desk.wireAll(x, 0, 35, 32, 34, 33, 33, 34, 32, 35, 43, 37, 38, 38, 54, 40, 50, 41);
        Check.due("gone through", 5, x.tabulate(0, 0));
        // 121 + 999 + 0 + 402 + 911, 5 * 100002, 10001 + 90009 + 0 + 40002 + 90001
        Check.due("paper", "2433 50 33", Desk.paper(x));

        for (char sign : " 0123456789ABCDEFGHIJKLMNOPQRSTUVWXYZ".toCharArray()) {
            CardOffice y = Desk.officeWith(0, "" + sign);
            Desk.wireAll(y, 0, 0, 64, 32, 32);
            y.tabulate(0, 0);
            int digit = Math.max(0, " 0123456789ABCDEFGHIJKLMNOPQR STUVWXYZ".indexOf(sign) - 1);
            int counted = digit < 10 ? digit : (digit - 10) % 9 + 1;
            Check.due("counted of " + sign, "" + counted, Desk.paper(y));
        }
    }

    private static void blanksAheadOfNumbers() {
        String[][] cases = {
            {"0", "     0"}, {"7", "     7"}, {"10", "    10"}, {"101", "   101"}, {"5000", "  5000"},
            {"999999", "999999"}, {"100000", "100000"}
        };
        for (String[] c : cases) {
            String six = " ".repeat(6 - c[0].length()) + c[0];
            CardOffice x = Desk.officeWith(0, six);
            for (int wheel = 0; wheel < 6; wheel++) {
                Desk.wireAll(x, 1, 5 - wheel, 70 + wheel, 38 + wheel, 37 - wheel);
            }
            Check.due("gone through", 1, x.tabulate(1, 0));
            Check.due("total of " + c[0], c[1], Desk.paper(x));
            Check.due("then it is 0", "0 0 0 0", Desk.counters(x));
        }
    }

    private static void levelsInOrder() {
        CardOffice x = Desk.officeWith(0, "1111", "1111", "1121", "1211", "2211", "2111");
        Desk.wireAll(x, 0, 2, 96, 1, 97, 0, 98, 3, 64, 3, 70, 3, 76, 3, 82);
        Desk.wireAll(x, 0, 32, 32, 38, 33, 44, 34, 50, 35);
        for (int counter = 0; counter < 4; counter++) {
            x.level(0, counter, counter);
        }
        Check.due("gone through", 6, x.tabulate(0, 0));
        String due = "2|" + "1| 3|" + "1| 1|  4|" + "1| 1|" + "1| 1|  2|   6";
        Check.due("paper", due, Desk.paper(x));
        Check.due("counters", "0 0 0 0", Desk.counters(x));

        CardOffice y = Desk.officeWith(0, "1 1", "2 1", "3 1");
        Desk.wireAll(y, 0, 0, 98, 2, 64, 32, 32);
        y.level(0, 0, 0);
        Check.due("gone through", 3, y.tabulate(0, 0));
        Check.due("a level without counters has no line", "1|1|1|", Desk.paper(y));
        CardOffice z = Desk.officeWith(0, "1 1", "2 1", "3 1");
        Desk.wireAll(z, 0, 0, 97, 2, 64, 32, 32);
        z.level(0, 0, 2);
        Check.due("gone through", 3, z.tabulate(0, 0));
        Check.due("a higher level does not break", "3|", Desk.paper(z));
    }

    private static void controlByColumnsAlone() {
        CardOffice x = Desk.officeWith(0, "11", "12", "22", "22");
        Desk.wireAll(x, 0, 0, 96, 1, 96, 16, 96, 17, 97, 32, 96, 16, 64, 17, 70, 38, 40);
        noLevelThree(x, 0, 0);
        Check.due("gone through", 4, x.tabulate(0, 0));
        Check.due("two columns at CONTROL are no fault", "0 at -1", Desk.fault(x));
        Check.due("paper", "        1|        1|        2", Desk.paper(x));

        CardOffice y = Desk.officeWith(0, "A", "1", "J", " ");
        Desk.wireAll(y, 0, 0, 96);
        noLevelThree(y, 0, 0);
        Check.due("gone through", 4, y.tabulate(0, 0));
        Check.due("signs are compared, not digits", 4, y.count(9));
    }

    private static void countersWithoutALine() {
        CardOffice x = Desk.officeWith(0, "5", "6");
        Desk.wireAll(x, 0, 0, 64, 0, 66);
        x.level(0, 0, 1);
        x.level(0, 1, 1);
        Check.due("gone through", 2, x.tabulate(0, 0));
        Check.due("lines of levels 1 and 3", "|", Desk.paper(x));
    }

    private static void anEmptyDeck() {
        CardOffice x = new CardOffice();
        Desk.wireAll(x, 0, 0, 99, 0, 32, 16, 32, 16, 64, 17, 64);
        Check.due("gone through", 0, x.tabulate(0, 5));
        Check.due("lines", 0, x.count(9));
        Check.due("fault", "0 at -1", Desk.fault(x));
    }

    private static void clashInLines() {
        CardOffice x = Desk.officeWith(0, "11", "  ", "12", "11");
        Desk.wireAll(x, 0, 0, 99, 1, 99, 0, 33, 1, 33, 15, 65, 17, 64);
        Check.due("gone through", 2, x.tabulate(0, 0));
        Check.due("fault", "2 at 2", Desk.fault(x));
        Check.due("paper", " 1|", Desk.paper(x));
        Check.due("what was counted stays", "2 0 0 0", Desk.counters(x));
        CardOffice y = Desk.officeWith(0, " 1");
        Desk.wireAll(y, 0, 0, 99, 0, 33, 1, 33);
        Check.due("gone through", 0, y.tabulate(0, 0));
        Check.due("a blank is a sign", "2 at 0", Desk.fault(y));
        CardOffice z = Desk.officeWith(0, " 1");
        Desk.wireAll(z, 0, 0, 33, 1, 33);
        Check.due("gone through", 1, z.tabulate(0, 0));
        Check.due("no line, no fault", "0 at -1", Desk.fault(z));
    }

    private static void clashInEntries() {
        CardOffice x = Desk.officeWith(0, "55", "12");
        Desk.wireAll(x, 0, 0, 65, 1, 65);
        Check.due("gone through", 1, x.tabulate(0, 0));
        Check.due("fault", "2 at 1", Desk.fault(x));
        Check.due("one sign counts once", "50 0 0 0", Desk.counters(x));
        CardOffice y = Desk.officeWith(0, "A");
        Desk.wireAll(y, 0, 0, 65, 17, 65);
        Check.due("gone through", 0, y.tabulate(0, 0));
        Check.due("signs differ, digits do not", "2 at 0", Desk.fault(y));
        CardOffice z = Desk.officeWith(0, " 0");
        Desk.wireAll(z, 0, 0, 65, 1, 65);
        Check.due("gone through", 0, z.tabulate(0, 0));
        Check.due("a blank is no 0", "2 at 0", Desk.fault(z));
    }

    private static void clashInTotals() {
        CardOffice x = Desk.officeWith(0, "A11", "B12", "C11");
        Desk.wireAll(x, 0, 0, 96, 1, 64, 2, 70, 32, 50, 38, 50, 15, 99, 1, 50);
        x.level(0, 0, 0);
        x.level(0, 1, 0);
        Check.due("gone through", 2, x.tabulate(0, 0));
        Check.due("fault", "2 at 2", Desk.fault(x));
        Check.due("paper", " ".repeat(18) + "1|" + " ".repeat(18) + "1|" + " ".repeat(18) + "1", Desk.paper(x));
        Check.due("counters stay", "1 2 0 0", Desk.counters(x));

        CardOffice y = Desk.officeWith(0, "A01", "B01");
        Desk.wireAll(y, 0, 0, 96, 1, 64, 2, 70, 33, 50, 38, 50);
        y.level(0, 0, 0);
        y.level(0, 1, 0);
        Check.due("gone through", 1, y.tabulate(0, 0));
        Check.due("a blank for a 0 is a sign", "2 at 1", Desk.fault(y));

        CardOffice z = Desk.officeWith(0, "A01", "B01");
        Desk.wireAll(z, 0, 0, 97, 1, 64, 2, 70, 32, 50, 38, 50);
        z.level(0, 0, 0);
        z.level(0, 1, 1);
        Check.due("gone through", 2, z.tabulate(0, 0));
        Check.due("totals of two levels are not at the same time", "0 at -1", Desk.fault(z));
        Check.due("lines", 5, z.count(9));
    }

    private static void clashInLastTotals() {
        CardOffice x = Desk.officeWith(0, "11", "11", "12");
        Desk.wireAll(x, 0, 0, 64, 1, 70, 32, 50, 38, 50);
        x.level(0, 2, 0);
        Check.due("gone through", 3, x.tabulate(0, 0));
        Check.due("at the end", "2 at 3", Desk.fault(x));
        Check.due("none of the last totals is done", 0, x.count(9));
        Check.due("counters", "3 4 0 0", Desk.counters(x));
    }

    private static void wiresThatDoNotCount() {
        CardOffice x = Desk.officeWith(0, "12", "34");
        Desk.wireAll(x, 0, 0, 5, 1, 5, 32, 64, 38, 64, 32, 7, 39, 7, 0, 99, 32, 40, 0, 40, 32, 98, 38, 99);
        Check.due("gone through", 2, x.tabulate(0, 0));
        Check.due("fault", "0 at -1", Desk.fault(x));
        Check.due("paper", "        1|        3|        0", Desk.paper(x));
        Check.due("deck", "12|34", Desk.deck(x, 0));
    }

    private static void tooBig() {
        CardOffice x = Desk.officeWith(0, "999998", "000001", "000001");
        for (int wheel = 0; wheel < 6; wheel++) {
            Desk.wireAll(x, 0, 5 - wheel, 82 + wheel);
        }
        Check.due("gone through", 2, x.tabulate(0, 0));
        Check.due("fault", "3 at 2", Desk.fault(x));
        Check.due("counters", "0 0 0 999999", Desk.counters(x));
        Check.due("no line", 0, x.count(9));
    }

    private static void totalsMakeRoomInCounters() {
        CardOffice x = Desk.officeWith(0, "A9", "B9", "B9");
        Desk.wireAll(x, 0, 0, 96, 1, 69, 37, 32);
        x.level(0, 0, 0);
        Check.due("gone through", 2, x.tabulate(0, 0));
        Check.due("fault", "3 at 2", Desk.fault(x));
        Check.due("paper", "9", Desk.paper(x));
        Check.due("counters", "900000 0 0 0", Desk.counters(x));
    }

    private static void noRoomForACard() {
        CardOffice x = new CardOffice();
        for (int k = 0; k < 101; k++) {
            Desk.putAll(x, 0, "5");
        }
        Desk.wireAll(x, 0, 0, 99, 0, 32, 17, 64);
        Check.due("gone through", 100, x.tabulate(0, 0));
        Check.due("fault", "4 at 100", Desk.fault(x));
        Check.due("lines", 100, x.count(9));
        Check.due("counters", "100 0 0 0", Desk.counters(x));
        Check.due("no room at all", 0, x.tabulate(0, 0));
        Check.due("fault", "4 at 0", Desk.fault(x));
        Check.due("counters begin anew", "0 0 0 0", Desk.counters(x));

        CardOffice y = new CardOffice();
        for (int k = 0; k < 99; k++) {
            Desk.putAll(y, 0, k < 98 ? "5" : "6");
        }
        Desk.wireAll(y, 0, 0, 99, 0, 32, 17, 64, 0, 98);
        for (int counter = 0; counter < 4; counter++) {
            y.level(0, counter, counter);
        }
        Check.due("gone through", 98, y.tabulate(0, 0));
        Check.due("no room for all lines of a card", "4 at 98", Desk.fault(y));
        Check.due("not one is printed", 98, y.count(9));
        Check.due("counters", "98 0 0 0", Desk.counters(y));
    }

    private static void totalsThatDoNotComeNeedNoRoom() {
        CardOffice x = new CardOffice();
        for (int k = 0; k < 101; k++) {
            Desk.putAll(x, 0, k < 98 ? "5" : "6");
        }
        Desk.wireAll(x, 0, 0, 99, 0, 96);
        for (int counter = 0; counter < 4; counter++) {
            x.level(0, counter, counter);
        }
        Check.due("98 cards, a total, a card", 99, x.tabulate(0, 0));
        Check.due("fault", "4 at 99", Desk.fault(x));
        Check.due("lines", 100, x.count(9));
    }

    private static void noRoomForLastTotals() {
        for (int cards = 96; cards <= 98; cards++) {
            CardOffice x = new CardOffice();
            for (int k = 0; k < cards; k++) {
                Desk.putAll(x, 0, "5");
            }
            Desk.wireAll(x, 0, 0, 99, 17, 64);
            for (int counter = 0; counter < 4; counter++) {
                x.level(0, counter, counter);
            }
            Check.due("gone through", cards, x.tabulate(0, 0));
            Check.due("fault", cards == 96 ? "0 at -1" : "4 at " + cards, Desk.fault(x));
            Check.due("lines", cards == 96 ? 100 : cards, x.count(9));
            Check.due("counter", cards == 96 ? 0 : cards, x.counter(0));
        }
    }

    private static void leastFault() {
        CardOffice x = new CardOffice();
        for (int k = 0; k < 100; k++) {
            Desk.putAll(x, 0, "");
        }
        Desk.putAll(x, 1, "91", "91");
        Desk.wireAll(x, 0, 0, 99);
        x.tabulate(0, 0);
        Check.due("the paper is full", 100, x.count(9));
        Desk.wireAll(x, 1, 25, 69);
        x.tabulate(1, 1);
        Check.due("too big ahead of no room", "3 at 1", Desk.fault(x));
        x.wire(1, 0, 99);
        x.tabulate(1, 1);
        Check.due("no room", "4 at 0", Desk.fault(x));
        x.wire(1, 0, 32);
        x.wire(1, 1, 32);
        x.tabulate(1, 1);
        Check.due("a clash ahead of no room", "2 at 0", Desk.fault(x));

        CardOffice y = Desk.officeWith(0, "99", "98");
        Desk.wireAll(y, 0, 0, 69, 0, 70, 1, 70);
        y.tabulate(0, 0);
        Check.due("a clash ahead of too big", "2 at 1", Desk.fault(y));

        CardOffice z = new CardOffice();
        for (int k = 0; k < 99; k++) {
            Desk.putAll(z, 0, "12");
        }
        Desk.wireAll(z, 0, 0, 99, 0, 64, 1, 70, 32, 32);
        z.level(0, 2, 0);
        z.tabulate(0, 0);
        Check.due("at the end, no room for two lines", "4 at 99", Desk.fault(z));
        z.tear();
        z.wire(0, 38, 32);
        z.tabulate(0, 0);
        Check.due("at the end, a clash ahead of no room", "2 at 99", Desk.fault(z));
    }

    private static void countersBeginAtZero() {
        CardOffice x = Desk.officeWith(0, "12");
        Desk.wireAll(x, 0, 0, 64, 1, 70, 32, 50, 38, 50);
        x.tabulate(0, 0);
        Check.due("counters after a fault at the end", "1 2 0 0", Desk.counters(x));
        x.tabulate(0, 0);
        Check.due("counters begin anew", "1 2 0 0", Desk.counters(x));
        x.tabulate(0, 1);
        Check.due("with an empty deck too", "0 0 0 0", Desk.counters(x));
    }

    private static void tearing() {
        CardOffice x = Desk.officeWith(0, "1", "2");
        Desk.wireAll(x, 0, 0, 99, 0, 32);
        x.tabulate(0, 0);
        x.tabulate(0, 0);
        Check.due("lines come to the end", "1|2||1|2|", Desk.paper(x));
        Check.due("tear", 6, x.tear());
        Check.due("lines", 0, x.count(9));
        Check.dueThrow("no line", Check.INDEX, () -> x.printed(0, 0));
        Check.due("tear again", 0, x.tear());
        x.strip(0);
        x.tabulate(0, 0);
        Check.due("blank paper came", "", Desk.paper(x));
        Check.due("one line", 1, x.count(9));
    }

    private static void refused() {
        CardOffice x = Desk.officeWith(0, "12");
        Desk.wireAll(x, 0, 0, 64, 1, 70, 32, 50, 38, 50);
        x.tabulate(0, 0);
        for (int wrong : new int[] {-1, 4, MIN, MAX}) {
            Check.dueThrow("board " + wrong, Check.ARGUMENT, () -> x.tabulate(wrong, 0));
            Check.dueThrow("counter " + wrong, Check.INDEX, () -> x.counter(wrong));
        }
        for (int wrong : new int[] {-1, 8, MIN, MAX}) {
            Check.dueThrow("deck " + wrong, Check.ARGUMENT, () -> x.tabulate(0, wrong));
        }
        Check.due("counters stay", "1 2 0 0", Desk.counters(x));
        Check.due("the fault stays", "2 at 1", Desk.fault(x));

        CardOffice y = Desk.officeWith(0, "1");
        y.tabulate(0, 0);
        for (int wrong : new int[] {-1, 1, 100, MIN, MAX}) {
            Check.dueThrow("line " + wrong, Check.INDEX, () -> y.printed(wrong, 0));
        }
        for (int wrong : new int[] {-1, 24, MIN, MAX}) {
            Check.dueThrow("position " + wrong, Check.INDEX, () -> y.printed(0, wrong));
        }
        Check.due("last position", 32, y.printed(0, 23));
    }
}
