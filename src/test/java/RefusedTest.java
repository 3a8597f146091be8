import java.util.function.Consumer;

/**
 * What answers false, or throws, changes nothing: of two offices that were used alike one gets calls that
 * are refused, and then both must look alike, at once and behind some calls more.
 */
public final class RefusedTest {
    private static final int NEXT_RUNS = 6;
    private static final long BLANKS = 0x2020202020202020L;

    public static void main(String[] args) {
        changesNothing("card()", RefusedTest::cards);
        changesNothing("wire()", RefusedTest::wires);
        changesNothing("strip() and level()", RefusedTest::boards);
        changesNothing("pass() and sort()", RefusedTest::sorter);
        changesNothing("merge()", RefusedTest::merge);
        changesNothing("match()", RefusedTest::match);
        changesNothing("reproduce()", RefusedTest::reproduce);
        changesNothing("gang()", RefusedTest::gang);
        changesNothing("multiply()", RefusedTest::multiply);
        changesNothing("tabulate()", RefusedTest::tabulate);
        changesNothing("cut()", RefusedTest::cut);
        changesNothing("what is asked", RefusedTest::asked);
        aFullOfficeStays();
        Check.end();
    }

    private static void changesNothing(String call, Consumer<CardOffice> refused) {
        Check.sentence("Terms: what answers false, or throws, changes nothing, " + call);
        for (int next = 0; next < NEXT_RUNS; next++) {
            CardOffice used = usedOffice();
            refused.accept(used);
            CardOffice twin = usedOffice();
            goOn(used, next);
            goOn(twin, next);
            Check.due("look " + next, look(twin), look(used));
        }
    }

    /** With cards, wires, levels, lines, counters, a fault, passes and brought cards: what a refused call might change. */
    private static CardOffice usedOffice() {
        CardOffice x = Desk.officeWith(0, "K12", "A0", "211");
        Desk.putAll(x, 1, "1A", "3B");
        Desk.putAll(x, 2, "1B");
        Desk.wireAll(x, 0, 0, 5, 1, 64, 17, 70, 0, 96, 1, 97, 0, 99, 0, 32, 32, 40, 38, 40);
        Desk.wireAll(x, 1, 1, 8, 16, 9, 1, 69, 2, 69, 37, 32, 0, 98);
        x.level(0, 0, 0);
        x.level(0, 1, 1);
        x.level(1, 2, 2);
        x.pass(0, 0, true);
        x.match(1, 2, 3, 0, 0);
        x.tabulate(0, 0);
        x.tabulate(1, 0);
        Check.due("fault", "2 at 1", Desk.fault(x));
        return x;
    }

    /** Calls that tell what can't be looked at: wires, levels, and the places of cards that machines need. */
    private static void goOn(CardOffice x, int next) {
        switch (next) {
            case 1:
                x.tear();
                x.tabulate(0, 0);
                break;
            case 2:
                x.tear();
                x.tabulate(1, 3);
                break;
            case 3:
                x.reproduce(1, 0, 6);
                break;
            case 4:
                x.gang(1, 0, 0);
                break;
            case 5:
                x.tear();
                x.tabulate(2, 0);
                x.tabulate(3, 3);
                x.sort(0, 0, 15);
                x.merge(0, 3, 0, 0);
                break;
            default:
                break;
        }
    }

    private static String look(CardOffice x) {
        StringBuilder look = new StringBuilder();
        for (int what = 0; what <= 15; what++) {
            look.append(x.count(what)).append(' ');
        }
        for (int deck = 0; deck < 8; deck++) {
            look.append("\ndeck ").append(deck).append(": ").append(Desk.deck(x, deck));
        }
        look.append("\npaper: ").append(Desk.paper(x));
        look.append("\ncounters: ").append(Desk.counters(x));
        look.append("\nfault: ").append(Desk.fault(x));
        return look.toString();
    }

    private static void cards(CardOffice x) {
        for (int deck : Edges.NO_DECKS) {
            Check.due("deck " + deck, false, x.card(deck, BLANKS, BLANKS));
        }
        Check.due("a byte of the first is no sign", false, x.card(0, BLANKS + 1, BLANKS));
        Check.due("a byte of the last is no sign", false, x.card(0, BLANKS, BLANKS + 1));
        Check.due("the least long", false, x.card(1, Long.MIN_VALUE, BLANKS));
        Check.due("the greatest long", false, x.card(1, BLANKS, Long.MAX_VALUE));
    }

    private static void wires(CardOffice x) {
        for (int board : Edges.NO_BOARDS) {
            Check.due("board " + board, false, x.wire(board, 0, 33));
        }
        for (int from : new int[] {-1, 26, 31, 56, Edges.LEAST, Edges.GREATEST}) {
            Check.due("from " + from, false, x.wire(0, from, 33));
        }
        for (int to : new int[] {-1, 16, 31, 56, 63, 88, 95, 100, Edges.LEAST, Edges.GREATEST}) {
            Check.due("to " + to, false, x.wire(1, 0, to));
        }
        Check.due("that is there", false, x.wire(0, 0, 5));
        Check.due("that is there", false, x.wire(1, 0, 98));
    }

    private static void boards(CardOffice x) {
        for (int board : Edges.NO_BOARDS) {
            Check.due("strip " + board, CardOffice.NONE, x.strip(board));
            Check.due("level on board " + board, false, x.level(board, 0, 1));
        }
        for (int wrong : Edges.NO_COUNTERS) {
            Check.due("counter " + wrong, false, x.level(0, wrong, 2));
            Check.due("level " + wrong, false, x.level(0, 0, wrong));
        }
    }

    private static void sorter(CardOffice x) {
        for (int deck : Edges.NO_DECKS) {
            Check.dueThrow("pass of deck " + deck, Check.ARGUMENT, () -> x.pass(deck, 0, false));
            Check.dueThrow("sort of deck " + deck, Check.ARGUMENT, () -> x.sort(deck, 0, 0));
        }
        for (int column : Edges.NO_COLUMNS) {
            Check.dueThrow("pass on column " + column, Check.ARGUMENT, () -> x.pass(0, column, false));
            Check.dueThrow("sort from " + column, Check.ARGUMENT, () -> x.sort(0, column, 15));
            Check.dueThrow("sort to " + column, Check.ARGUMENT, () -> x.sort(0, 0, column));
        }
        Check.dueThrow("sort of no field", Check.ARGUMENT, () -> x.sort(0, 1, 0));
    }

    private static void merge(CardOffice x) {
        for (int deck : Edges.NO_DECKS) {
            Check.dueThrow("deck " + deck, Check.ARGUMENT, () -> x.merge(deck, 3, 0, 0));
            Check.dueThrow("other " + deck, Check.ARGUMENT, () -> x.merge(3, deck, 0, 0));
        }
        Check.dueThrow("no field", Check.ARGUMENT, () -> x.merge(1, 3, 0, 16));
        Check.dueThrow("the same", Check.ARGUMENT, () -> x.merge(3, 3, 0, 0));
        Check.dueThrow("the deck is not sorted", Check.STATE, () -> x.merge(0, 3, 1, 1));
        Check.dueThrow("the other is not sorted", Check.STATE, () -> x.merge(3, 0, 1, 1));
    }

    private static void match(CardOffice x) {
        for (int deck : Edges.NO_DECKS) {
            Check.dueThrow("deck " + deck, Check.ARGUMENT, () -> x.match(deck, 3, 4, 0, 0));
            Check.dueThrow("other " + deck, Check.ARGUMENT, () -> x.match(3, deck, 4, 0, 0));
            Check.dueThrow("into " + deck, Check.ARGUMENT, () -> x.match(1, 3, deck, 0, 0));
        }
        Check.dueThrow("no field", Check.ARGUMENT, () -> x.match(1, 3, 4, 0, 16));
        Check.dueThrow("the same", Check.ARGUMENT, () -> x.match(3, 1, 3, 0, 0));
        Check.dueThrow("the deck is not sorted", Check.STATE, () -> x.match(0, 3, 4, 1, 1));
        Check.dueThrow("the other is not sorted", Check.STATE, () -> x.match(3, 0, 4, 1, 1));
    }

    private static void reproduce(CardOffice x) {
        for (int board : Edges.NO_BOARDS) {
            Check.dueThrow("board " + board, Check.ARGUMENT, () -> x.reproduce(board, 0, 4));
        }
        for (int deck : Edges.NO_DECKS) {
            Check.dueThrow("deck " + deck, Check.ARGUMENT, () -> x.reproduce(0, deck, 4));
            Check.dueThrow("into " + deck, Check.ARGUMENT, () -> x.reproduce(0, 0, deck));
        }
        Check.dueThrow("the same", Check.ARGUMENT, () -> x.reproduce(0, 0, 0));
    }

    private static void gang(CardOffice x) {
        for (int board : Edges.NO_BOARDS) {
            Check.dueThrow("board " + board, Check.ARGUMENT, () -> x.gang(board, 0, 0));
        }
        for (int deck : Edges.NO_DECKS) {
            Check.dueThrow("deck " + deck, Check.ARGUMENT, () -> x.gang(1, deck, 0));
        }
        for (int column : Edges.NO_COLUMNS) {
            Check.dueThrow("column " + column, Check.ARGUMENT, () -> x.gang(1, 0, column));
        }
    }

    private static void multiply(CardOffice x) {
        for (int deck : Edges.NO_DECKS) {
            Check.dueThrow("deck " + deck, Check.ARGUMENT, () -> x.multiply(deck, 14, 15, 13));
        }
        for (int field : new int[] {-1, 31, 95, 96, 256, Edges.LEAST, Edges.GREATEST}) {
            Check.dueThrow("rate " + field, Check.ARGUMENT, () -> x.multiply(0, field, 14, 13));
            Check.dueThrow("quantity " + field, Check.ARGUMENT, () -> x.multiply(0, 14, field, 13));
            Check.dueThrow("product " + field, Check.ARGUMENT, () -> x.multiply(0, 13, 14, field));
        }
        Check.dueThrow("the product in the rate", Check.ARGUMENT, () -> x.multiply(0, 14, 15, 14));
        Check.dueThrow("the product in the quantity", Check.ARGUMENT, () -> x.multiply(0, 14, 15, 15));
    }

    private static void tabulate(CardOffice x) {
        for (int board : Edges.NO_BOARDS) {
            Check.dueThrow("board " + board, Check.ARGUMENT, () -> x.tabulate(board, 0));
        }
        for (int deck : Edges.NO_DECKS) {
            Check.dueThrow("deck " + deck, Check.ARGUMENT, () -> x.tabulate(0, deck));
        }
    }

    private static void cut(CardOffice x) {
        for (int deck : Edges.NO_DECKS) {
            Check.due("from deck " + deck, false, x.cut(deck, 0, 1));
            Check.due("into deck " + deck, false, x.cut(0, 1, deck));
        }
        Check.due("the same", false, x.cut(0, 1, 0));
        Check.due("one too many", false, x.cut(0, 4, 1));
        Check.due("the greatest int", false, x.cut(0, Edges.GREATEST, 1));
    }

    private static void asked(CardOffice x) {
        for (int wrong : new int[] {-1, 200, Edges.LEAST, Edges.GREATEST}) {
            Check.dueThrow("sign of deck " + wrong, Check.INDEX, () -> x.sign(wrong, 0, 0));
            Check.dueThrow("sign of card " + wrong, Check.INDEX, () -> x.sign(0, wrong, 0));
            Check.dueThrow("sign in column " + wrong, Check.INDEX, () -> x.sign(0, 0, wrong));
            Check.dueThrow("line " + wrong, Check.INDEX, () -> x.printed(wrong, 0));
            Check.dueThrow("position " + wrong, Check.INDEX, () -> x.printed(0, wrong));
            Check.dueThrow("counter " + wrong, Check.INDEX, () -> x.counter(wrong));
            Check.due("fault " + wrong, CardOffice.NONE, x.fault(wrong));
            Check.due("count " + wrong, CardOffice.NONE, x.count(wrong));
        }
    }

    private static void aFullOfficeStays() {
        Check.sentence("Terms: what answers false changes nothing, in a full office");
        CardOffice x = Edges.officeOf(200, "0000000000000000");
        for (int k = 0; k < 40; k++) {
            Desk.wireAll(x, 0, k % 16, 64 + k / 2);
        }
        for (int deck = 0; deck < 8; deck++) {
            Check.due("card of deck " + deck, false, Desk.put(x, deck, "8"));
            Check.due("cards of deck " + deck, deck == 0 ? 200 : 0, x.count(deck));
        }
        Check.due("wire", false, x.wire(0, 0, 99));
        Check.due("wires", 40, x.count(10));
        Check.due("the last card", (int) '0', x.sign(0, 199, 0));
        Check.due("gone through", 200, x.tabulate(0, 0));
        Check.due("there are no lines of cards", 1, x.count(9));
    }
}
