/** Arguments next to the limits of the document. */
final class Edges {
    static final int LEAST = Integer.MIN_VALUE;
    static final int GREATEST = Integer.MAX_VALUE;

    static final int[] NO_DECKS = noneOf(8);
    static final int[] NO_BOARDS = noneOf(4);
    static final int[] NO_COUNTERS = noneOf(4);
    static final int[] NO_LEVELS = noneOf(4);
    static final int[] NO_COLUMNS = noneOf(16);
    static final int[] NO_POSITIONS = noneOf(24);

    private Edges() {
    }

    /** None of 0 .. size - 1: the nearest ones, some whose low bits are those of a good one, the least and the greatest. */
    static int[] noneOf(int size) {
        return new int[] {-1, size, -size, 1 << 8, 1 << 16, LEAST, LEAST + 1, GREATEST};
    }

    static CardOffice officeOf(int cards, String text) {
        CardOffice office = new CardOffice();
        putMany(office, 0, cards, text);
        return office;
    }

    static void putMany(CardOffice office, int deck, int cards, String text) {
        for (int k = 0; k < cards; k++) {
            Desk.putAll(office, deck, text);
        }
    }

    /** Counter c has level c, so that each level has a line of its own in the totals. */
    static void aLevelForEach(CardOffice office, int board) {
        for (int counter = 0; counter < 4; counter++) {
            Check.due("level of counter " + counter, true, office.level(board, counter, counter));
        }
    }

    /** A paper with lines that are blank, each from a card of deck 7, by board 3, which is bare again at the end. */
    static void printBlankLines(CardOffice office, int lines) {
        Desk.wireAll(office, 3, 0, 99);
        putMany(office, 7, lines - 1, "");
        office.tabulate(3, 7);
        Check.due("lines ahead", lines, office.count(9));
        office.strip(3);
    }
}
