import java.util.Arrays;

/**
 * An office that works with cards: decks go through a sorter, a collator, a reproducer,
 * a multiplier and a tabulator, the last ones wired by boards of jacks.
 */
public final class CardOffice {
    public static final int NONE = -1;

    private static final int DECKS = 8;
    private static final int MOST_CARDS = 200;
    private static final int COLUMNS = 16;
    private static final int BLANK = 32;

    private static final int MASTER_ZONE = 2;
    private static final int DIGIT_POCKETS = 11;

    private static final int BOARDS = 4;
    private static final int MOST_WIRES = 40;
    private static final int COUNTERS = 4;
    private static final int WHEELS = 6;
    private static final int LEVELS = 4;
    private static final int LAST_LEVEL = 3;

    private static final int DIGIT_JACKS = 16;
    private static final int DIGIT_JACKS_END = 26;
    private static final int EXIT_JACKS = 32;
    private static final int EXIT_JACKS_END = 56;

    private static final int PRINT_JACKS = 32;
    private static final int PRINT_JACKS_END = 56;
    private static final int ENTRY_JACKS = 64;
    private static final int ENTRY_JACKS_END = 88;
    private static final int CONTROL_JACKS = 96;
    private static final int LIST_JACK = 99;

    private static final int POSITIONS = 24;
    private static final int MOST_LINES = 100;

    private static final int NO_FAULT = 0;
    private static final int BAD_SIGN = 1;
    private static final int CLASH = 2;
    private static final int TOO_BIG = 3;
    private static final int NO_ROOM = 4;

    private static final int MOST_FACTOR_COLUMNS = 6;
    private static final int[] POWERS = {1, 10, 100, 1000, 10000, 100000, 1000000};

    private final Deck[] decks = new Deck[DECKS];
    private final Board[] boards = new Board[BOARDS];
    private final int[] columnsRead = new int[COLUMNS];
    private final FaultLight light = new FaultLight();
    private final Sorter sorter = new Sorter();
    private final Collator collator = new Collator();
    private final Reproducer reproducer = new Reproducer();
    private final Tabulator tabulator = new Tabulator();

    public CardOffice() {
        for (int deck = 0; deck < DECKS; deck++) {
            decks[deck] = new Deck();
        }
        for (int board = 0; board < BOARDS; board++) {
            boards[board] = new Board();
        }
    }

    public boolean card(int deck, long first, long last) {
        if (!isDeck(deck) || cardsInAll() >= MOST_CARDS) {
            return false;
        }
        if (!readColumns(first, 0) || !readColumns(last, COLUMNS / 2)) {
            return false;
        }
        Card card = new Card();
        for (int column = 0; column < COLUMNS; column++) {
            card.signs[column] = columnsRead[column];
        }
        decks[deck].add(card);
        return true;
    }

    public boolean wire(int board, int from, int to) {
        if (!isBoard(board) || !isFromJack(from) || !isToJack(to)) {
            return false;
        }
        return boards[board].addWire(from, to);
    }

    public int strip(int board) {
        if (!isBoard(board)) {
            return NONE;
        }
        return boards[board].makeBare();
    }

    public boolean level(int board, int counter, int level) {
        if (!isBoard(board) || !isCounter(counter) || level < 0 || level >= LEVELS) {
            return false;
        }
        boards[board].levels[counter] = level;
        return true;
    }

    public int pass(int deck, int column, boolean zones) throws IllegalArgumentException {
        if (!isDeck(deck) || !isColumn(column)) {
            throw new IllegalArgumentException("no such deck or column");
        }
        return sorter.passOnce(decks[deck], column, zones);
    }

    public int sort(int deck, int from, int to) throws IllegalArgumentException {
        if (!isDeck(deck) || !isField(from, to)) {
            throw new IllegalArgumentException("no such deck or field");
        }
        return sorter.sortOn(decks[deck], from, to);
    }

    public int merge(int deck, int other, int from, int to) throws IllegalArgumentException, IllegalStateException {
        if (!areTwoDecks(deck, other) || !isField(from, to)) {
            throw new IllegalArgumentException("no such two decks or field");
        }
        if (!decks[deck].isSorted(from, to) || !decks[other].isSorted(from, to)) {
            throw new IllegalStateException("a deck is not sorted");
        }
        return collator.mergeOn(decks[deck], decks[other], from, to);
    }

    public int match(int deck, int other, int into, int from, int to) throws IllegalArgumentException, IllegalStateException {
        if (!areTwoDecks(deck, other) || !areTwoDecks(deck, into) || !areTwoDecks(other, into) || !isField(from, to)) {
            throw new IllegalArgumentException("no such three decks or field");
        }
        if (!decks[deck].isSorted(from, to) || !decks[other].isSorted(from, to)) {
            throw new IllegalStateException("a deck is not sorted");
        }
        return collator.matchOn(decks[deck], decks[other], decks[into], from, to);
    }

    public int reproduce(int board, int deck, int into) throws IllegalArgumentException {
        if (!isBoard(board) || !areTwoDecks(deck, into)) {
            throw new IllegalArgumentException("no such board or two decks");
        }
        return reproducer.copyDeck(boards[board], decks[deck], decks[into], MOST_CARDS - cardsInAll(), light);
    }

    public int gang(int board, int deck, int column) throws IllegalArgumentException {
        if (!isBoard(board) || !isDeck(deck) || !isColumn(column)) {
            throw new IllegalArgumentException("no such board, deck or column");
        }
        return reproducer.punchGangs(boards[board], decks[deck], column, light);
    }

    public int multiply(int deck, int rate, int quantity, int product) throws IllegalArgumentException {
        if (!isDeck(deck) || !isFactorField(rate) || !isFactorField(quantity) || !isFactorField(product)) {
            throw new IllegalArgumentException("no such deck or field");
        }
        if (haveCommonColumn(product, rate) || haveCommonColumn(product, quantity)) {
            throw new IllegalArgumentException("the product has a column of another field");
        }
        return Multiplier.goThrough(decks[deck], rate, quantity, product, light);
    }

    public int tabulate(int board, int deck) throws IllegalArgumentException {
        if (!isBoard(board) || !isDeck(deck)) {
            throw new IllegalArgumentException("no such board or deck");
        }
        return tabulator.goThrough(boards[board], decks[deck], light);
    }

    public boolean cut(int deck, int n, int into) {
        if (!areTwoDecks(deck, into) || decks[deck].size < n) {
            return false;
        }
        decks[deck].moveFirst(n, decks[into]);
        return true;
    }

    public int sign(int deck, int i, int column) throws IndexOutOfBoundsException {
        if (!isDeck(deck) || i < 0 || i >= decks[deck].size || !isColumn(column)) {
            throw new IndexOutOfBoundsException("no such deck, card or column");
        }
        return decks[deck].at(i).signs[column];
    }

    public int printed(int i, int position) throws IndexOutOfBoundsException {
        if (i < 0 || i >= tabulator.paper.lines || position < 0 || position >= POSITIONS) {
            throw new IndexOutOfBoundsException("no such line or position");
        }
        return tabulator.paper.signs[i][position];
    }

    public int counter(int c) throws IndexOutOfBoundsException {
        if (!isCounter(c)) {
            throw new IndexOutOfBoundsException("no such counter");
        }
        return tabulator.counters[c];
    }

    public int tear() {
        int lines = tabulator.paper.lines;
        tabulator.paper.lines = 0;
        return lines;
    }

    public int fault(int which) {
        switch (which) {
            case 0:
                return light.kind;
            case 1:
                return light.place;
            default:
                return NONE;
        }
    }

    public int count(int what) {
        if (isDeck(what)) {
            return decks[what].size;
        }
        if (isBoard(what - 10)) {
            return boards[what - 10].wires;
        }
        switch (what) {
            case 8:
                return cardsInAll();
            case 9:
                return tabulator.paper.lines;
            case 14:
                return sorter.passes;
            case 15:
                return collator.brought;
            default:
                return NONE;
        }
    }

    private static boolean isDeck(int deck) {
        return deck >= 0 && deck < DECKS;
    }

    private static boolean areTwoDecks(int deck, int other) {
        return isDeck(deck) && isDeck(other) && deck != other;
    }

    private static boolean isBoard(int board) {
        return board >= 0 && board < BOARDS;
    }

    private static boolean isCounter(int counter) {
        return counter >= 0 && counter < COUNTERS;
    }

    private static boolean isColumn(int column) {
        return column >= 0 && column < COLUMNS;
    }

    private static boolean isField(int from, int to) {
        return from >= 0 && from <= to && to < COLUMNS;
    }

    private static boolean isFromJack(int from) {
        return from >= 0 && from < DIGIT_JACKS_END || from >= EXIT_JACKS && from < EXIT_JACKS_END;
    }

    private static boolean isToJack(int to) {
        return isColumn(to)
            || to >= PRINT_JACKS && to < PRINT_JACKS_END
            || to >= ENTRY_JACKS && to < ENTRY_JACKS_END
            || to >= CONTROL_JACKS && to <= LIST_JACK;
    }

    private static boolean isFactorField(int field) {
        return field >= 0 && field < COLUMNS * MOST_FACTOR_COLUMNS && endOf(field) <= COLUMNS;
    }

    private static boolean haveCommonColumn(int field, int other) {
        return startOf(field) < endOf(other) && startOf(other) < endOf(field);
    }

    private static int startOf(int field) {
        return field % COLUMNS;
    }

    private static int widthOf(int field) {
        return field / COLUMNS + 1;
    }

    private static int endOf(int field) {
        return startOf(field) + widthOf(field);
    }

    private int cardsInAll() {
        int cards = 0;
        for (int deck = 0; deck < DECKS; deck++) {
            cards += decks[deck].size;
        }
        return cards;
    }

    private boolean readColumns(long bytes, int firstColumn) {
        for (int k = 0; k < COLUMNS / 2; k++) {
            int code = (int) (bytes >>> (56 - 8 * k)) & 255;
            if (!isSign(code)) {
                return false;
            }
            columnsRead[firstColumn + k] = code;
        }
        return true;
    }

    private static boolean isSign(int code) {
        return code == BLANK || code >= '0' && code <= '9' || code >= 'A' && code <= 'Z';
    }

    private static int digitOf(int sign) {
        if (sign >= 'S') {
            return sign - 'S' + 2;
        }
        if (sign >= 'J') {
            return sign - 'J' + 1;
        }
        if (sign >= 'A') {
            return sign - 'A' + 1;
        }
        return sign == BLANK ? NONE : sign - '0';
    }

    private static int zoneOf(int sign) {
        if (sign >= 'S') {
            return 1;
        }
        if (sign >= 'J') {
            return 2;
        }
        return sign >= 'A' ? 3 : 0;
    }

    /** NONE is -1, so a blank's pocket is the one ahead of that of 0. */
    private static int digitPocketOf(int sign) {
        return digitOf(sign) + 1;
    }

    private static int rankOf(int sign) {
        return zoneOf(sign) * DIGIT_POCKETS + digitPocketOf(sign);
    }

    private static final class Card {
        private final int[] signs = new int[COLUMNS];

        int compareOn(Card other, int from, int to) {
            for (int column = from; column <= to; column++) {
                if (signs[column] != other.signs[column]) {
                    return Integer.compare(rankOf(signs[column]), rankOf(other.signs[column]));
                }
            }
            return 0;
        }

        boolean canTake(int column, int sign) {
            return signs[column] == BLANK || signs[column] == sign;
        }
    }

    private static final class Deck {
        private final Card[] cards = new Card[MOST_CARDS];
        private int size;

        Card at(int i) {
            return cards[i];
        }

        void add(Card card) {
            cards[size] = card;
            size++;
        }

        void takeAllOf(Deck other) {
            for (int i = 0; i < other.size; i++) {
                cards[i] = other.cards[i];
            }
            size = other.size;
            other.size = 0;
        }

        void moveFirst(int n, Deck into) {
            // No deck has less than a negative n: then no card comes.
            int moved = Math.max(n, 0);
            for (int i = 0; i < moved; i++) {
                into.add(cards[i]);
            }
            for (int i = moved; i < size; i++) {
                cards[i - moved] = cards[i];
            }
            size -= moved;
        }

        boolean isSorted(int from, int to) {
            for (int i = 1; i < size; i++) {
                if (cards[i].compareOn(cards[i - 1], from, to) < 0) {
                    return false;
                }
            }
            return true;
        }

        boolean hasZoneIn(int column) {
            for (int i = 0; i < size; i++) {
                if (zoneOf(cards[i].signs[column]) > 0) {
                    return true;
                }
            }
            return false;
        }
    }

    /** The fault of the latest run of a machine. */
    private static final class FaultLight {
        private int kind = NO_FAULT;
        private int place = NONE;

        /** Answers how many cards were gone through: all those ahead of the fault. */
        int stopAt(int newKind, int newPlace) {
            kind = newKind;
            place = newPlace;
            return newPlace;
        }

        int allDone(int cards) {
            kind = NO_FAULT;
            place = NONE;
            return cards;
        }
    }

    private static final class Sorter {
        private final int[] places = new int[DIGIT_POCKETS];
        private final Card[] stacked = new Card[MOST_CARDS];
        private int passes;

        int passOnce(Deck deck, int column, boolean zones) {
            passes++;
            fillPockets(deck, column, zones);
            int used = stackPockets();
            for (int i = 0; i < deck.size; i++) {
                int pocket = pocketOf(deck.at(i), column, zones);
                stacked[places[pocket]] = deck.at(i);
                places[pocket]++;
            }
            for (int i = 0; i < deck.size; i++) {
                deck.cards[i] = stacked[i];
            }
            return used;
        }

        int sortOn(Deck deck, int from, int to) {
            if (deck.isSorted(from, to)) {
                return 0;
            }
            int passesBefore = passes;
            for (int column = to; column >= from; column--) {
                passOnce(deck, column, false);
                if (deck.hasZoneIn(column)) {
                    passOnce(deck, column, true);
                }
            }
            return passes - passesBefore;
        }

        private void fillPockets(Deck deck, int column, boolean zones) {
            Arrays.fill(places, 0);
            for (int i = 0; i < deck.size; i++) {
                places[pocketOf(deck.at(i), column, zones)]++;
            }
        }

        /** Turns how many cards each pocket has into the place of its first card; answers how many have any. */
        private int stackPockets() {
            int used = 0;
            int place = 0;
            for (int pocket = 0; pocket < DIGIT_POCKETS; pocket++) {
                int cards = places[pocket];
                if (cards > 0) {
                    used++;
                }
                places[pocket] = place;
                place += cards;
            }
            return used;
        }

        private static int pocketOf(Card card, int column, boolean zones) {
            int sign = card.signs[column];
            return zones ? zoneOf(sign) : digitPocketOf(sign);
        }
    }

    private static final class Collator {
        private final Deck rest = new Deck();
        private final Deck otherRest = new Deck();
        private int brought;

        int mergeOn(Deck deck, Deck other, int from, int to) {
            int all = deck.size + other.size;
            int i = 0;
            int j = 0;
            brought += other.size;
            for (int k = 0; k < all; k++) {
                if (orderOf(deck, i, other, j, from, to) <= 0) {
                    rest.add(deck.at(i));
                    i++;
                } else {
                    rest.add(other.at(j));
                    j++;
                }
            }
            other.size = 0;
            deck.takeAllOf(rest);
            return all;
        }

        int matchOn(Deck deck, Deck other, Deck into, int from, int to) {
            int all = deck.size + other.size;
            int sizeBefore = into.size;
            int i = 0;
            int j = 0;
            Card latest = null;
            for (int k = 0; k < all; k++) {
                int order = orderOf(deck, i, other, j, from, to);
                if (order <= 0) {
                    latest = order == 0 ? deck.at(i) : latest;
                    Deck goal = order == 0 ? into : rest;
                    goal.add(deck.at(i));
                    i++;
                } else {
                    // The deck's cards of a key have all come when the other's turn is: the latest one tells the key.
                    boolean alike = latest != null && other.at(j).compareOn(latest, from, to) == 0;
                    Deck goal = alike ? into : otherRest;
                    goal.add(other.at(j));
                    j++;
                }
            }
            deck.takeAllOf(rest);
            other.takeAllOf(otherRest);
            brought += into.size - sizeBefore;
            return into.size - sizeBefore;
        }

        /** A deck that has come to its end is behind every key of the other one. */
        private static int orderOf(Deck deck, int i, Deck other, int j, int from, int to) {
            if (j >= other.size) {
                return -1;
            }
            if (i >= deck.size) {
                return 1;
            }
            return deck.at(i).compareOn(other.at(j), from, to);
        }
    }

    /** What wires have brought to a row of jacks of one kind. */
    private static final class Jacks {
        private final int firstJack;
        private final int[] signs;
        private boolean clashed;

        Jacks(int firstJack, int jacks) {
            this.firstJack = firstJack;
            this.signs = new int[jacks];
        }

        void clear() {
            Arrays.fill(signs, NONE);
            clashed = false;
        }

        boolean hasJack(int jack) {
            return jack >= firstJack && jack < firstJack + signs.length;
        }

        void bring(int jack, int sign) {
            int place = jack - firstJack;
            if (signs[place] != NONE && signs[place] != sign) {
                clashed = true;
            }
            signs[place] = sign;
        }

        int signOrBlank(int place) {
            return signs[place] == NONE ? BLANK : signs[place];
        }
    }

    private static final class Board {
        private final int[] from = new int[MOST_WIRES];
        private final int[] to = new int[MOST_WIRES];
        private final int[] levels = new int[COUNTERS];
        private int wires;

        Board() {
            Arrays.fill(levels, LAST_LEVEL);
        }

        boolean addWire(int newFrom, int newTo) {
            if (wires >= MOST_WIRES || hasWire(newFrom, newTo)) {
                return false;
            }
            from[wires] = newFrom;
            to[wires] = newTo;
            wires++;
            return true;
        }

        int makeBare() {
            int lost = wires;
            wires = 0;
            Arrays.fill(levels, LAST_LEVEL);
            return lost;
        }

        private boolean hasWire(int wireFrom, int wireTo) {
            for (int w = 0; w < wires; w++) {
                if (from[w] == wireFrom && to[w] == wireTo) {
                    return true;
                }
            }
            return false;
        }

        private boolean isFromExit(int w) {
            return from[w] >= EXIT_JACKS;
        }

        private int signFrom(int w, Card card) {
            return from[w] < COLUMNS ? card.signs[from[w]] : '0' + from[w] - DIGIT_JACKS;
        }

        void bringFromCard(Card card, Jacks jacks) {
            jacks.clear();
            for (int w = 0; w < wires; w++) {
                if (!isFromExit(w) && jacks.hasJack(to[w])) {
                    jacks.bring(to[w], signFrom(w, card));
                }
            }
        }

        void bringFromCounters(int[] counters, int level, Jacks line) {
            line.clear();
            for (int w = 0; w < wires; w++) {
                if (isFromExit(w) && line.hasJack(to[w])) {
                    int exit = from[w] - EXIT_JACKS;
                    int counter = exit / WHEELS;
                    if (levels[counter] == level) {
                        line.bring(to[w], wheelSign(counters[counter], exit % WHEELS));
                    }
                }
            }
        }

        private static int wheelSign(int number, int wheel) {
            int fromWheelUp = number / POWERS[wheel];
            return fromWheelUp == 0 && wheel > 0 ? BLANK : '0' + fromWheelUp % 10;
        }

        /** Each wire is asked by itself: one of two that clash may bring the sign that is there. */
        boolean canPunch(Card master, Card card) {
            for (int w = 0; w < wires; w++) {
                if (!isFromExit(w) && to[w] < COLUMNS && !card.canTake(to[w], signFrom(w, master))) {
                    return false;
                }
            }
            return true;
        }

        /** How many levels break: with a level all lower ones do, so that they are always the first ones. */
        int levelsBroken(Card ahead, Card card) {
            int broken = 0;
            for (int w = 0; w < wires; w++) {
                boolean isControl = to[w] >= CONTROL_JACKS && to[w] < LIST_JACK;
                if (isControl && from[w] < COLUMNS && card.signs[from[w]] != ahead.signs[from[w]]) {
                    broken = Math.max(broken, to[w] - CONTROL_JACKS + 1);
                }
            }
            return broken;
        }

        boolean isListing() {
            for (int w = 0; w < wires; w++) {
                if (to[w] == LIST_JACK) {
                    return true;
                }
            }
            return false;
        }

        boolean hasCounterOf(int level) {
            for (int counter = 0; counter < COUNTERS; counter++) {
                if (levels[counter] == level) {
                    return true;
                }
            }
            return false;
        }
    }

    private static final class Reproducer {
        private final Jacks columns = new Jacks(0, COLUMNS);

        int copyDeck(Board board, Deck deck, Deck into, int room, FaultLight light) {
            for (int i = 0; i < deck.size; i++) {
                board.bringFromCard(deck.at(i), columns);
                if (columns.clashed) {
                    return light.stopAt(CLASH, i);
                }
                if (i >= room) {
                    return light.stopAt(NO_ROOM, i);
                }
                into.add(newCard());
            }
            return light.allDone(deck.size);
        }

        int punchGangs(Board board, Deck deck, int column, FaultLight light) {
            Card master = null;
            for (int i = 0; i < deck.size; i++) {
                Card card = deck.at(i);
                if (zoneOf(card.signs[column]) == MASTER_ZONE) {
                    master = card;
                } else if (master != null) {
                    board.bringFromCard(master, columns);
                    if (!board.canPunch(master, card)) {
                        return light.stopAt(BAD_SIGN, i);
                    }
                    if (columns.clashed) {
                        return light.stopAt(CLASH, i);
                    }
                    punchInto(card);
                }
            }
            return light.allDone(deck.size);
        }

        private Card newCard() {
            Card card = new Card();
            for (int column = 0; column < COLUMNS; column++) {
                card.signs[column] = columns.signOrBlank(column);
            }
            return card;
        }

        private void punchInto(Card card) {
            for (int column = 0; column < COLUMNS; column++) {
                if (columns.signs[column] != NONE) {
                    card.signs[column] = columns.signs[column];
                }
            }
        }
    }

    private static final class Multiplier {
        static int goThrough(Deck deck, int rate, int quantity, int product, FaultLight light) {
            for (int i = 0; i < deck.size; i++) {
                int fault = multiplyOn(deck.at(i), rate, quantity, product);
                if (fault != NO_FAULT) {
                    return light.stopAt(fault, i);
                }
            }
            return light.allDone(deck.size);
        }

        private static int multiplyOn(Card card, int rate, int quantity, int product) {
            long first = numberIn(card, rate);
            long second = numberIn(card, quantity);
            if (first == NONE || second == NONE) {
                return BAD_SIGN;
            }
            long result = (first * second + 5) / 10;
            if (result >= POWERS[widthOf(product)]) {
                return TOO_BIG;
            }
            if (!canTakeNumber(card, product, (int) result)) {
                return BAD_SIGN;
            }
            punchNumber(card, product, (int) result);
            return NO_FAULT;
        }

        /** The number in a field, NONE if a sign in it can't be used. */
        private static long numberIn(Card card, int field) {
            long number = 0;
            for (int column = startOf(field); column < endOf(field); column++) {
                int sign = card.signs[column];
                if (zoneOf(sign) != 0) {
                    return NONE;
                }
                number = number * 10 + Math.max(digitOf(sign), 0);
            }
            return number;
        }

        private static boolean canTakeNumber(Card card, int field, int number) {
            for (int column = startOf(field); column < endOf(field); column++) {
                if (!card.canTake(column, signOfNumber(number, field, column))) {
                    return false;
                }
            }
            return true;
        }

        private static void punchNumber(Card card, int field, int number) {
            for (int column = startOf(field); column < endOf(field); column++) {
                card.signs[column] = signOfNumber(number, field, column);
            }
        }

        private static int signOfNumber(int number, int field, int column) {
            return '0' + number / POWERS[endOf(field) - 1 - column] % 10;
        }
    }

    private static final class Paper {
        private final int[][] signs = new int[MOST_LINES][POSITIONS];
        private int lines;

        boolean hasRoomFor(int more) {
            return lines + more <= MOST_LINES;
        }

        void print(Jacks line) {
            for (int position = 0; position < POSITIONS; position++) {
                signs[lines][position] = line.signOrBlank(position);
            }
            lines++;
        }
    }

    private static final class Tabulator {
        private final int[] counters = new int[COUNTERS];
        private final Paper paper = new Paper();
        private final Jacks totalLine = new Jacks(PRINT_JACKS, POSITIONS);
        private final Jacks cardLine = new Jacks(PRINT_JACKS, POSITIONS);
        private final Jacks entries = new Jacks(ENTRY_JACKS, COUNTERS * WHEELS);

        int goThrough(Board board, Deck deck, FaultLight light) {
            Arrays.fill(counters, 0);
            boolean listing = board.isListing();
            for (int i = 0; i < deck.size; i++) {
                Card card = deck.at(i);
                int broken = i == 0 ? 0 : board.levelsBroken(deck.at(i - 1), card);
                int fault = faultOfCard(board, card, broken, listing);
                if (fault != NO_FAULT) {
                    return light.stopAt(fault, i);
                }
                doTotals(board, broken);
                doCard(listing);
            }
            return finish(board, deck.size, light);
        }

        private int finish(Board board, int cards, FaultLight light) {
            if (cards > 0) {
                int fault = faultOfLastTotals(board);
                if (fault != NO_FAULT) {
                    return light.stopAt(fault, cards);
                }
                doTotals(board, LEVELS);
            }
            return light.allDone(cards);
        }

        /** Leaves in cardLine and entries what the card brings there, for doCard. */
        private int faultOfCard(Board board, Card card, int broken, boolean listing) {
            board.bringFromCard(card, cardLine);
            board.bringFromCard(card, entries);
            if (totalsClash(board, broken) || listing && cardLine.clashed || entries.clashed) {
                return CLASH;
            }
            if (isAnyOverrun(board, broken)) {
                return TOO_BIG;
            }
            int lines = totalLines(board, broken) + (listing ? 1 : 0);
            return paper.hasRoomFor(lines) ? NO_FAULT : NO_ROOM;
        }

        private int faultOfLastTotals(Board board) {
            if (totalsClash(board, LEVELS)) {
                return CLASH;
            }
            return paper.hasRoomFor(totalLines(board, LEVELS)) ? NO_FAULT : NO_ROOM;
        }

        private boolean totalsClash(Board board, int levels) {
            for (int level = 0; level < levels; level++) {
                board.bringFromCounters(counters, level, totalLine);
                if (totalLine.clashed) {
                    return true;
                }
            }
            return false;
        }

        /** A counter whose total comes ahead of the counting counts from 0. */
        private boolean isAnyOverrun(Board board, int broken) {
            for (int counter = 0; counter < COUNTERS; counter++) {
                int start = board.levels[counter] < broken ? 0 : counters[counter];
                if (start + entered(counter) >= POWERS[WHEELS]) {
                    return true;
                }
            }
            return false;
        }

        private int entered(int counter) {
            int sum = 0;
            for (int wheel = 0; wheel < WHEELS; wheel++) {
                int sign = entries.signOrBlank(counter * WHEELS + wheel);
                sum += Math.max(digitOf(sign), 0) * POWERS[wheel];
            }
            return sum;
        }

        private static int totalLines(Board board, int levels) {
            int lines = 0;
            for (int level = 0; level < levels; level++) {
                if (board.hasCounterOf(level)) {
                    lines++;
                }
            }
            return lines;
        }

        private void doTotals(Board board, int levels) {
            for (int level = 0; level < levels; level++) {
                if (board.hasCounterOf(level)) {
                    board.bringFromCounters(counters, level, totalLine);
                    paper.print(totalLine);
                    clearCounters(board, level);
                }
            }
        }

        private void clearCounters(Board board, int level) {
            for (int counter = 0; counter < COUNTERS; counter++) {
                if (board.levels[counter] == level) {
                    counters[counter] = 0;
                }
            }
        }

        private void doCard(boolean listing) {
            if (listing) {
                paper.print(cardLine);
            }
            for (int counter = 0; counter < COUNTERS; counter++) {
                counters[counter] += entered(counter);
            }
        }
    }
}
