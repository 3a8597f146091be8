/** Promises 3, 4 and 5: wire, strip, level. */
public final class BoardsTest {
    private static final int MIN = Integer.MIN_VALUE;
    private static final int MAX = Integer.MAX_VALUE;

    public static void main(String[] args) {
        everyJack();
        wrongBoards();
        theSameWire();
        fortyWires();
        stripTakesWires();
        stripTakesLevels();
        aFullBoardIsUsed();
        aBareBoardDoesNothing();
        levelRefused();
        levelsAreOfOneBoard();
        Check.end();
    }

    private static void everyJack() {
        for (int jack = -130; jack < 260; jack++) {
            CardOffice x = new CardOffice();
            boolean isFrom = jack >= 0 && jack <= 25 || jack >= 32 && jack <= 55;
            boolean isTo = jack >= 0 && jack <= 15 || jack >= 32 && jack <= 55
                || jack >= 64 && jack <= 87 || jack >= 96 && jack <= 99;
            Check.due("wire from " + jack, isFrom, x.wire(0, jack, 99));
            Check.due("wire to " + jack, isTo, x.wire(1, 0, jack));
            Check.due("wires of board 0", isFrom ? 1 : 0, x.count(10));
            Check.due("wires of board 1", isTo ? 1 : 0, x.count(11));
        }
        CardOffice x = new CardOffice();
        for (int jack : new int[] {MIN, MAX}) {
            Check.due("wire from " + jack, false, x.wire(0, jack, 0));
            Check.due("wire to " + jack, false, x.wire(0, 0, jack));
        }
    }

    private static void wrongBoards() {
        CardOffice x = new CardOffice();
        for (int board : new int[] {-1, 4, MIN, MAX}) {
            Check.due("wire on board " + board, false, x.wire(board, 0, 0));
            Check.due("strip board " + board, CardOffice.NONE, x.strip(board));
            Check.due("level on board " + board, false, x.level(board, 0, 0));
        }
    }

    private static void theSameWire() {
        CardOffice x = new CardOffice();
        Check.due("a wire", true, x.wire(2, 5, 40));
        Check.due("the same wire", false, x.wire(2, 5, 40));
        Check.due("the same from", true, x.wire(2, 5, 41));
        Check.due("the same to", true, x.wire(2, 6, 40));
        Check.due("another board", true, x.wire(3, 5, 40));
        Check.due("wires", 3, x.count(12));
        Check.due("strip", 3, x.strip(2));
        Check.due("the same wire anew", true, x.wire(2, 5, 40));
    }

    private static void fortyWires() {
        CardOffice x = new CardOffice();
        for (int k = 0; k < 40; k++) {
            Check.due("wire " + k, true, x.wire(1, k % 16, 64 + k / 2));
        }
        Check.due("wire 40", false, x.wire(1, 0, 99));
        Check.due("wires", 40, x.count(11));
        Check.due("another board has room", true, x.wire(0, 0, 99));
        Check.due("strip", 40, x.strip(1));
        Check.due("there is room", true, x.wire(1, 0, 99));
    }

    private static void stripTakesWires() {
        CardOffice x = Desk.officeWith(0, "7");
        Desk.wireAll(x, 0, 0, 1);
        Desk.wireAll(x, 1, 0, 2);
        Check.due("strip", 1, x.strip(0));
        Check.due("strip again", 0, x.strip(0));
        x.reproduce(0, 0, 1);
        x.reproduce(1, 0, 1);
        Check.due("the bare board, the other", "|  7", Desk.deck(x, 1));
    }

    private static void stripTakesLevels() {
        CardOffice x = Desk.officeWith(0, "1", "2");
        for (int counter = 0; counter < 4; counter++) {
            x.level(0, counter, counter);
        }
        x.tabulate(0, 0);
        Check.due("a line for each level", 4, x.tear());
        x.strip(0);
        x.tabulate(0, 0);
        Check.due("a line for level 3", 1, x.tear());
    }

    private static CardOffice withFullBoard() {
        CardOffice x = Desk.officeWith(0, "1K", "1");
        for (int k = 0; k < 10; k++) {
            Desk.wireAll(x, 0, 0, 32 + k, 0, 42 + k, 0, 64 + 2 * k);
        }
        Desk.wireAll(x, 0, 1, 15, 0, 14, 0, 13, 0, 12, 0, 96, 0, 97, 0, 98, 0, 99, 0, 0, 32, 55);
        return x;
    }

    private static void aFullBoardIsUsed() {
        CardOffice x = withFullBoard();
        Check.due("wires", 40, x.count(10));
        Check.due("tabulate", 2, x.tabulate(0, 0));
        String line = "1".repeat(20);
        Check.due("paper", line + "|" + line + "|" + " ".repeat(23) + "2", Desk.paper(x));
        Check.due("reproduce", 2, x.reproduce(0, 0, 1));
        Check.due("into", "1           111K|1           111", Desk.deck(x, 1));
        Check.due("gang", 2, x.gang(0, 0, 1));
        Check.due("deck", "1K|1           111K", Desk.deck(x, 0));
    }

    private static void aBareBoardDoesNothing() {
        CardOffice x = withFullBoard();
        x.strip(0);
        x.level(0, 0, 0);
        Check.due("tabulate", 2, x.tabulate(0, 0));
        Check.due("paper", "|", Desk.paper(x));
        Check.due("gang", 2, x.gang(0, 0, 1));
        Check.due("deck", "1K|1", Desk.deck(x, 0));
        for (int to : new int[] {32, 15, 64, 96, 97, 98, 99}) {
            CardOffice y = Desk.officeWith(0, "1 K", "3");
            Desk.wireAll(y, 0, 0, to);
            y.strip(0);
            for (int counter = 0; counter < 4; counter++) {
                y.level(0, counter, 0);
            }
            y.tabulate(0, 0);
            Check.due("paper without a wire to " + to, 1, y.count(9));
            y.gang(0, 0, 2);
            Check.due("deck without a wire to " + to, "1 K|3", Desk.deck(y, 0));
        }
        CardOffice z = Desk.officeWith(0, "1", "1");
        Desk.wireAll(z, 0, 32, 32);
        z.strip(0);
        z.tabulate(0, 0);
        Check.due("paper without a wire from an exit", "", Desk.paper(z));
    }

    private static void levelRefused() {
        CardOffice x = new CardOffice();
        for (int wrong : new int[] {-1, 4, MIN, MAX}) {
            Check.due("counter " + wrong, false, x.level(0, wrong, 0));
            Check.due("level " + wrong, false, x.level(0, 0, wrong));
        }
        for (int board = 0; board < 4; board++) {
            for (int counter = 0; counter < 4; counter++) {
                for (int level = 0; level < 4; level++) {
                    Check.due("level", true, x.level(board, counter, level));
                }
            }
        }
    }

    private static void levelsAreOfOneBoard() {
        CardOffice x = Desk.officeWith(0, "1", "2");
        for (int board = 0; board < 4; board++) {
            Desk.wireAll(x, board, 0, 96, 0, 70, 38, 32);
        }
        x.level(2, 1, 0);
        x.level(2, 1, 9);
        for (int board = 0; board < 4; board++) {
            x.tabulate(board, 0);
            Check.due("paper of board " + board, board == 2 ? "1|2|" : "3", Desk.paper(x));
            x.tear();
        }
    }
}
