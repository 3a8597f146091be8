/** Promises 10 and 11: reproduce and gang, with their faults. */
public final class ReproducerTest {
    private static final int MIN = Integer.MIN_VALUE;
    private static final int MAX = Integer.MAX_VALUE;

    public static void main(String[] args) {
        reproduceByWires();
        reproduceOtherWiresDoNothing();
        reproduceClash();
        reproduceWithoutRoom();
        reproduceRefused();
        gangByMasters();
        gangMasterSigns();
        gangBadSign();
        gangClash();
        gangLeastFault();
        gangOtherWiresDoNothing();
        gangRefused();
        Check.end();
    }

    private static void reproduceByWires() {
        CardOffice x = Desk.officeWith(0, "A1", "B", "  Z");
        Desk.putAll(x, 3, "9");
        Desk.wireAll(x, 2, 0, 15, 1, 0, 16, 3, 25, 4, 1, 1);
        Check.due("made", 3, x.reproduce(2, 0, 3));
        Check.due("into", "9|11 09          A|   09          B|   09", Desk.deck(x, 3));
        Check.due("deck", "A1|B|  Z", Desk.deck(x, 0));
        Check.due("fault", "0 at -1", Desk.fault(x));
        Check.due("cards", 7, x.count(8));
        Check.due("an empty deck", 0, x.reproduce(2, 1, 3));
        Check.due("fault", "0 at -1", Desk.fault(x));
        x.gang(2, 0, 0);
        Check.due("the new cards are cards of their own", "9|11 09          A|   09          B|   09", Desk.deck(x, 3));
    }

    private static void reproduceOtherWiresDoNothing() {
        CardOffice x = Desk.officeWith(0, "12");
        Desk.wireAll(x, 0, 32, 5, 0, 32, 1, 32, 0, 64, 1, 64, 0, 96, 1, 96, 1, 99, 33, 6, 39, 6);
        Check.due("made", 1, x.reproduce(0, 0, 1));
        Check.due("into", "", Desk.deck(x, 1));
        Check.due("blank card", 1, x.count(1));
        Check.due("fault", "0 at -1", Desk.fault(x));
    }

    private static void reproduceClash() {
        CardOffice x = Desk.officeWith(0, "11", "AA", "A1", "22");
        Desk.wireAll(x, 0, 0, 5, 1, 5);
        Check.due("made", 2, x.reproduce(0, 0, 1));
        Check.due("into", "     1|     A", Desk.deck(x, 1));
        Check.due("fault", "2 at 2", Desk.fault(x));

        CardOffice y = Desk.officeWith(0, "  ", "1 ");
        Desk.wireAll(y, 0, 0, 5, 1, 5);
        Check.due("made", 1, y.reproduce(0, 0, 1));
        Check.due("a blank is a sign", "2 at 1", Desk.fault(y));

        CardOffice z = Desk.officeWith(0, "4", "5");
        Desk.wireAll(z, 0, 0, 5, 20, 5);
        Check.due("made", 1, z.reproduce(0, 0, 1));
        Check.due("a digit against a column", "2 at 1", Desk.fault(z));
        z.cut(0, 1, 2);
        Check.due("made", 1, z.reproduce(0, 2, 1));
        Check.due("an earlier fault is over", "0 at -1", Desk.fault(z));
    }

    private static void reproduceWithoutRoom() {
        CardOffice x = new CardOffice();
        for (int k = 0; k < 197; k++) {
            Desk.putAll(x, k < 5 ? 0 : 1, "" + k % 10);
        }
        Desk.wireAll(x, 0, 0, 0);
        Check.due("made", 3, x.reproduce(0, 0, 2));
        Check.due("fault", "4 at 3", Desk.fault(x));
        Check.due("into", "0|1|2", Desk.deck(x, 2));
        Check.due("cards", 200, x.count(8));
        Check.due("made", 0, x.reproduce(0, 0, 2));
        Check.due("fault", "4 at 0", Desk.fault(x));
        Desk.wireAll(x, 0, 16, 0);
        Check.due("made", 0, x.reproduce(0, 1, 2));
        Check.due("the least fault is told", "2 at 0", Desk.fault(x));
        Check.due("an empty deck", 0, x.reproduce(0, 7, 2));
        Check.due("fault", "0 at -1", Desk.fault(x));
    }

    private static void reproduceRefused() {
        CardOffice x = Desk.officeWith(0, "1");
        Check.dueThrow("the same", Check.ARGUMENT, () -> x.reproduce(0, 0, 0));
        for (int wrong : new int[] {-1, 8, MIN, MAX}) {
            Check.dueThrow("deck " + wrong, Check.ARGUMENT, () -> x.reproduce(0, wrong, 1));
            Check.dueThrow("into " + wrong, Check.ARGUMENT, () -> x.reproduce(0, 0, wrong));
        }
        for (int wrong : new int[] {-1, 4, MIN, MAX}) {
            Check.dueThrow("board " + wrong, Check.ARGUMENT, () -> x.reproduce(wrong, 0, 1));
        }
        Check.due("cards", 1, x.count(8));
    }

    private static void gangByMasters() {
        CardOffice x = Desk.officeWith(0, "8", "K7A", " ", "  A", "J5B", "L6C", " ");
        Desk.wireAll(x, 0, 1, 4, 2, 2, 19, 5);
        Check.due("gone through", 7, x.gang(0, 0, 0));
        Check.due("deck", "8|K7A|  A 73|  A 73|J5B|L6C|  C 63", Desk.deck(x, 0));
        Check.due("fault", "0 at -1", Desk.fault(x));
        Check.due("again, the same is there", 7, x.gang(0, 0, 0));
        Check.due("deck", "8|K7A|  A 73|  A 73|J5B|L6C|  C 63", Desk.deck(x, 0));
        Check.due("no master", 7, x.gang(0, 0, 15));
        Check.due("an empty deck", 0, x.gang(0, 1, 0));
    }

    private static void gangMasterSigns() {
        for (char sign : " 0123456789ABCDEFGHIJKLMNOPQRSTUVWXYZ".toCharArray()) {
            CardOffice x = Desk.officeWith(0, "3  " + sign, "4");
            Desk.wireAll(x, 0, 0, 8);
            Check.due("gone through", 2, x.gang(0, 0, 3));
            boolean isMaster = sign >= 'J' && sign <= 'R';
            Check.due("behind " + sign, isMaster ? "4       3" : "4", Desk.cardAt(x, 0, 1));
        }
    }

    private static void gangBadSign() {
        CardOffice x = Desk.officeWith(0, "K1", "", " 1", " 2", "");
        Desk.wireAll(x, 0, 1, 1);
        Check.due("gone through", 3, x.gang(0, 0, 0));
        Check.due("deck", "K1| 1| 1| 2|", Desk.deck(x, 0));
        Check.due("fault", "1 at 3", Desk.fault(x));

        CardOffice y = Desk.officeWith(0, "K", " 5");
        Desk.wireAll(y, 0, 1, 1, 0, 3);
        Check.due("gone through", 1, y.gang(0, 0, 0));
        Check.due("a blank comes upon a sign", "1 at 1", Desk.fault(y));
        Check.due("nothing was done", " 5", Desk.cardAt(y, 0, 1));
    }

    private static void gangClash() {
        CardOffice x = Desk.officeWith(0, "", "K11", "", "K12", "");
        Desk.wireAll(x, 0, 1, 5, 2, 5);
        Check.due("gone through", 4, x.gang(0, 0, 0));
        Check.due("masters and cards ahead of them have no fault", "2 at 4", Desk.fault(x));
        Check.due("deck", "|K11|     1|K12|", Desk.deck(x, 0));

        CardOffice y = Desk.officeWith(0, "", "K", "");
        Desk.wireAll(y, 0, 17, 5, 18, 5);
        Check.due("gone through", 2, y.gang(0, 0, 0));
        Check.due("digits that differ", "2 at 2", Desk.fault(y));
    }

    private static void gangLeastFault() {
        CardOffice x = Desk.officeWith(0, "K12", "     1");
        Desk.wireAll(x, 0, 1, 5, 2, 5);
        x.gang(0, 0, 0);
        Check.due("the first wire brings what is there", "1 at 1", Desk.fault(x));
        CardOffice y = Desk.officeWith(0, "K12", "     2");
        Desk.wireAll(y, 0, 1, 5, 2, 5);
        y.gang(0, 0, 0);
        Check.due("the last wire brings what is there", "1 at 1", Desk.fault(y));
        CardOffice z = Desk.officeWith(0, "K12", "      9");
        Desk.wireAll(z, 0, 1, 5, 2, 5, 1, 6);
        z.gang(0, 0, 0);
        Check.due("at two columns", "1 at 1", Desk.fault(z));
    }

    private static void gangOtherWiresDoNothing() {
        CardOffice x = Desk.officeWith(0, "K12", "");
        Desk.wireAll(x, 0, 32, 5, 0, 32, 1, 32, 0, 64, 1, 64, 0, 96, 1, 99);
        Check.due("gone through", 2, x.gang(0, 0, 0));
        Check.due("deck", "K12|", Desk.deck(x, 0));
    }

    private static void gangRefused() {
        CardOffice x = Desk.officeWith(0, "K1", "");
        Desk.wireAll(x, 0, 1, 1);
        for (int wrong : new int[] {-1, 8, MIN, MAX}) {
            Check.dueThrow("deck " + wrong, Check.ARGUMENT, () -> x.gang(0, wrong, 0));
        }
        for (int wrong : new int[] {-1, 4, MIN, MAX}) {
            Check.dueThrow("board " + wrong, Check.ARGUMENT, () -> x.gang(wrong, 0, 0));
        }
        for (int wrong : new int[] {-1, 16, MIN, MAX}) {
            Check.dueThrow("column " + wrong, Check.ARGUMENT, () -> x.gang(0, 0, wrong));
        }
        Check.due("deck", "K1|", Desk.deck(x, 0));
    }
}
