/** The edges of promises 3, 4 and 5: wire, strip, level. */
public final class BoardsEdgesTest {
    private static final int[] FROM_ENDS = {0, 15, 16, 25, 32, 55};
    private static final int[] NO_FROMS = {-1, 26, 31, 56, 64, 87, 96, 99, 256, 1 << 16, Edges.LEAST, Edges.GREATEST};
    private static final int[] TO_ENDS = {0, 15, 32, 55, 64, 87, 96, 97, 98, 99};
    private static final int[] NO_TOS = {-1, 16, 25, 31, 56, 63, 88, 95, 100, 256, 1 << 16, Edges.LEAST, Edges.GREATEST};

    public static void main(String[] args) {
        wireOfNoBoard();
        wireFromOuterJacks();
        wireFromNoJack();
        wireToOuterJacks();
        wireToNoJack();
        wireThatIsThere();
        fortyWires();
        fortyWiresOnEachBoard();
        theFortiethWireWorks();
        stripOfNoBoard();
        stripOfABareBoard();
        stripOfAFullBoard();
        stripTakesEveryLevelBack();
        stripLeavesOtherBoards();
        stripLeavesPaperAndCounters();
        levelOfNoBoard();
        levelOfNoCounter();
        levelThatIsNone();
        levelsThatAreTaken();
        levelOfOneBoardAlone();
        levelIsThreeAtFirst();
        Check.end();
    }

    private static void wireOfNoBoard() {
        Check.sentence("Promise 3: false if there is no such board");
        CardOffice x = new CardOffice();
        for (int board : Edges.NO_BOARDS) {
            Check.due("board " + board, false, x.wire(board, 0, 0));
        }
        Check.due("the first board", true, x.wire(0, 0, 0));
        Check.due("the last board", true, x.wire(3, 0, 0));
        Check.due("wires", "1 0 0 1", wires(x));
    }

    private static String wires(CardOffice x) {
        return x.count(10) + " " + x.count(11) + " " + x.count(12) + " " + x.count(13);
    }

    private static void wireFromOuterJacks() {
        Check.sentence("Terms: FROM 0 .. 15, 16 .. 25, 32 .. 55");
        CardOffice x = new CardOffice();
        for (int from : FROM_ENDS) {
            Check.due("from " + from, true, x.wire(0, from, 32));
        }
        Check.due("wires", FROM_ENDS.length, x.count(10));
    }

    private static void wireFromNoJack() {
        Check.sentence("Promise 3: false if there is no such jack, from");
        CardOffice x = new CardOffice();
        for (int from : NO_FROMS) {
            Check.due("from " + from, false, x.wire(0, from, 32));
        }
        Check.due("wires", 0, x.count(10));
    }

    private static void wireToOuterJacks() {
        Check.sentence("Terms: TO 0 .. 15, 32 .. 55, 64 .. 87, 96, 97, 98, 99");
        CardOffice x = new CardOffice();
        for (int to : TO_ENDS) {
            Check.due("to " + to, true, x.wire(0, 0, to));
        }
        Check.due("wires", TO_ENDS.length, x.count(10));
    }

    private static void wireToNoJack() {
        Check.sentence("Promise 3: false if there is no such jack, to");
        CardOffice x = new CardOffice();
        for (int to : NO_TOS) {
            Check.due("to " + to, false, x.wire(0, 0, to));
        }
        Check.due("wires", 0, x.count(10));
    }

    private static void wireThatIsThere() {
        Check.sentence("Promise 3: false if there is that wire already");
        CardOffice x = new CardOffice();
        Check.due("the first", true, x.wire(0, 32, 33));
        Check.due("the first again", false, x.wire(0, 32, 33));
        Check.due("the other way round", true, x.wire(0, 33, 32));
        Check.due("with one end of it", true, x.wire(0, 32, 34));
        Check.due("with the other end of it", true, x.wire(0, 34, 33));
        Check.due("the latest again", false, x.wire(0, 34, 33));
        Check.due("the first again", false, x.wire(0, 32, 33));
        for (int board = 1; board < 4; board++) {
            Check.due("on board " + board, true, x.wire(board, 32, 33));
        }
        Check.due("wires", "4 1 1 1", wires(x));
    }

    private static void wireMany(CardOffice x, int board, int wires) {
        for (int k = 0; k < wires; k++) {
            Check.due("wire " + k, true, x.wire(board, k % 16, 32 + k / 2));
        }
    }

    private static void fortyWires() {
        Check.sentence("Promise 3: false if it has 40");
        CardOffice x = new CardOffice();
        wireMany(x, 2, 39);
        Check.due("the last one that is taken", true, x.wire(2, 25, 99));
        Check.due("the first one that is refused", false, x.wire(2, 24, 99));
        Check.due("one that is there", false, x.wire(2, 25, 99));
        Check.due("wires", 40, x.count(12));
        x.strip(2);
        Check.due("a bare board takes it", true, x.wire(2, 24, 99));
    }

    private static void fortyWiresOnEachBoard() {
        Check.sentence("Terms: boards 0 .. 3 have wires, at most 40 each");
        CardOffice x = new CardOffice();
        for (int board = 0; board < 4; board++) {
            wireMany(x, board, 40);
        }
        for (int board = 0; board < 4; board++) {
            Check.due("one more on board " + board, false, x.wire(board, 25, 99));
        }
        Check.due("wires", "40 40 40 40", wires(x));
    }

    private static void theFortiethWireWorks() {
        Check.sentence("Terms: at most 40 wires, the last one");
        CardOffice x = Desk.officeWith(0, "1111111111111117");
        wireMany(x, 0, 28);
        for (int k = 0; k < 11; k++) {
            Desk.wireAll(x, 0, k, 64 + k);
        }
        Desk.wireAll(x, 0, 15, 9);
        Check.due("refused", false, x.wire(0, 15, 10));
        Check.due("made", 1, x.reproduce(0, 0, 1));
        Check.due("the new card has what the last wire brings", "         7", Desk.deck(x, 1));
    }

    private static void stripOfNoBoard() {
        Check.sentence("Promise 4: NONE if there is no such board");
        CardOffice x = new CardOffice();
        for (int board = 0; board < 4; board++) {
            Desk.wireAll(x, board, 0, 0);
        }
        for (int board : Edges.NO_BOARDS) {
            Check.due("strip " + board, CardOffice.NONE, x.strip(board));
        }
        Check.due("wires", "1 1 1 1", wires(x));
    }

    private static void stripOfABareBoard() {
        Check.sentence("Promise 4: how many wires there were, none");
        CardOffice x = new CardOffice();
        for (int board = 0; board < 4; board++) {
            Check.due("strip " + board, 0, x.strip(board));
            Desk.wireAll(x, board, 0, 0);
            Check.due("one wire", 1, x.strip(board));
            Check.due("none again", 0, x.strip(board));
        }
    }

    private static void stripOfAFullBoard() {
        Check.sentence("Promise 4: a board loses all wires, of 40");
        CardOffice x = Desk.officeWith(0, "7777777777777777");
        wireMany(x, 0, 24);
        for (int column = 0; column < 16; column++) {
            Desk.wireAll(x, 0, column, column);
        }
        Check.due("strip", 40, x.strip(0));
        Check.due("wires", 0, x.count(10));
        Check.due("made", 1, x.reproduce(0, 0, 1));
        Check.due("the new card is blank", "", Desk.deck(x, 1));
        wireMany(x, 0, 40);
        Check.due("it takes 40 again", 40, x.count(10));
    }

    /** Two cards that differ: a counter of a level below 3 has a total between them. */
    private static int linesOfTwoCards(CardOffice x, int board) {
        Desk.wireAll(x, board, 0, 98);
        x.tabulate(board, 0);
        return x.tear();
    }

    private static void stripTakesEveryLevelBack() {
        Check.sentence("Promise 4: its counters' levels are 3");
        for (int board = 0; board < 4; board++) {
            for (int counter = 0; counter < 4; counter++) {
                for (int level = 0; level < 3; level++) {
                    CardOffice x = Desk.officeWith(0, "1", "2");
                    x.level(board, counter, level);
                    Check.due("lines with level " + level, 3, linesOfTwoCards(x, board));
                    x.strip(board);
                    Check.due("lines with level 3", 1, linesOfTwoCards(x, board));
                }
            }
        }
    }

    private static void stripLeavesOtherBoards() {
        Check.sentence("Promise 4: a board, and no other one");
        CardOffice x = Desk.officeWith(0, "1", "2");
        for (int board = 0; board < 4; board++) {
            Desk.wireAll(x, board, 0, 0);
            x.level(board, 0, 0);
        }
        x.strip(1);
        Check.due("wires", "1 0 1 1", wires(x));
        for (int board = 0; board < 4; board++) {
            Check.due("lines of board " + board, board == 1 ? 1 : 3, linesOfTwoCards(x, board));
        }
    }

    private static void stripLeavesPaperAndCounters() {
        Check.sentence("Promise 4: wires and levels, and nothing else");
        CardOffice x = Desk.officeWith(0, "12", "13");
        Desk.wireAll(x, 0, 0, 99, 0, 32, 0, 64, 1, 70, 32, 40, 38, 40);
        x.tabulate(0, 0);
        x.strip(0);
        Check.due("paper", "1|1", Desk.paper(x));
        Check.due("counters", "2 5 0 0", Desk.counters(x));
        Check.due("fault", "2 at 2", Desk.fault(x));
        Check.due("deck", "12|13", Desk.deck(x, 0));
    }

    private static void levelOfNoBoard() {
        Check.sentence("Promise 5: false if there is no such board");
        CardOffice x = Desk.officeWith(0, "1", "2");
        for (int board : Edges.NO_BOARDS) {
            Check.due("board " + board, false, x.level(board, 0, 0));
        }
        for (int board = 0; board < 4; board++) {
            Check.due("lines of board " + board, 1, linesOfTwoCards(x, board));
        }
    }

    private static void levelOfNoCounter() {
        Check.sentence("Promise 5: false if there is no such counter");
        CardOffice x = Desk.officeWith(0, "1", "2");
        for (int counter : Edges.NO_COUNTERS) {
            Check.due("counter " + counter, false, x.level(1, counter, 0));
        }
        for (int board = 0; board < 4; board++) {
            Check.due("lines of board " + board, 1, linesOfTwoCards(x, board));
        }
    }

    private static void levelThatIsNone() {
        Check.sentence("Promise 5: false if there is no such level");
        CardOffice x = Desk.officeWith(0, "1", "2");
        x.level(1, 2, 1);
        for (int level : Edges.NO_LEVELS) {
            Check.due("level " + level, false, x.level(1, 2, level));
        }
        Check.due("lines, the level is 1 as before", 3, linesOfTwoCards(x, 1));
    }

    private static void levelsThatAreTaken() {
        Check.sentence("Promise 5: boards 0 .. 3, counters 0 .. 3, levels 0 .. 3");
        for (int board = 0; board < 4; board++) {
            for (int counter = 0; counter < 4; counter++) {
                CardOffice x = Desk.officeWith(0, "1", "2");
                for (int level = 0; level < 4; level++) {
                    Check.due("level " + level, true, x.level(board, counter, level));
                }
                Check.due("lines, the latest level is 3", 1, linesOfTwoCards(x, board));
                Check.due("the same once more", true, x.level(board, counter, 3));
            }
        }
    }

    private static void levelOfOneBoardAlone() {
        Check.sentence("Promise 5: a counter's level on a board");
        for (int board = 0; board < 4; board++) {
            CardOffice x = Desk.officeWith(0, "1", "2");
            x.level(board, 0, 0);
            for (int other = 0; other < 4; other++) {
                Check.due("lines of board " + other, other == board ? 3 : 1, linesOfTwoCards(x, other));
            }
        }
    }

    private static void levelIsThreeAtFirst() {
        Check.sentence("Terms: 3 at first");
        for (int board = 0; board < 4; board++) {
            CardOffice x = Desk.officeWith(0, "1", "2");
            Desk.wireAll(x, board, 17, 64, 17, 70, 17, 76, 17, 82, 32, 32, 38, 33, 44, 34, 50, 35, 0, 98);
            x.tabulate(board, 0);
            Check.due("one line with all counters", "2222", Desk.paper(x));
        }
    }
}
