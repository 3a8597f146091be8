/** Cards and lines as texts, so that tests can be read: blanks at the end of one are left out. */
final class Desk {
    private Desk() {
    }

    static boolean put(CardOffice office, int deck, String text) {
        return office.card(deck, half(text, 0), half(text, 8));
    }

    static CardOffice officeWith(int deck, String... texts) {
        CardOffice office = new CardOffice();
        putAll(office, deck, texts);
        return office;
    }

    static void putAll(CardOffice office, int deck, String... texts) {
        for (String text : texts) {
            Check.due("card " + text, true, put(office, deck, text));
        }
    }

    /** Wires told as pairs of jacks. */
    static void wireAll(CardOffice office, int board, int... jacks) {
        for (int k = 0; k < jacks.length; k += 2) {
            Check.due("wire " + jacks[k] + " " + jacks[k + 1], true, office.wire(board, jacks[k], jacks[k + 1]));
        }
    }

    static long half(String text, int first) {
        long bytes = 0;
        for (int k = first; k < first + 8; k++) {
            bytes = bytes << 8 | (k < text.length() ? text.charAt(k) & 255 : ' ');
        }
        return bytes;
    }

    static String cardAt(CardOffice office, int deck, int i) {
        StringBuilder text = new StringBuilder();
        for (int column = 0; column < 16; column++) {
            text.append((char) office.sign(deck, i, column));
        }
        return text.toString().stripTrailing();
    }

    static String deck(CardOffice office, int deck) {
        StringBuilder text = new StringBuilder();
        int cards = office.count(deck);
        for (int i = 0; i < cards; i++) {
            text.append(i == 0 ? "" : "|").append(cardAt(office, deck, i));
        }
        return text.toString();
    }

    /** The signs in one column of all cards of a deck: where it has many, whole cards take too many calls. */
    static String column(CardOffice office, int deck, int column) {
        StringBuilder text = new StringBuilder();
        int cards = office.count(deck);
        for (int i = 0; i < cards; i++) {
            text.append((char) office.sign(deck, i, column));
        }
        return text.toString();
    }

    static String line(CardOffice office, int i) {
        StringBuilder text = new StringBuilder();
        for (int position = 0; position < 24; position++) {
            text.append((char) office.printed(i, position));
        }
        return text.toString().stripTrailing();
    }

    static String paper(CardOffice office) {
        StringBuilder text = new StringBuilder();
        int lines = office.count(9);
        for (int i = 0; i < lines; i++) {
            text.append(i == 0 ? "" : "|").append(line(office, i));
        }
        return text.toString();
    }

    static String counters(CardOffice office) {
        return office.counter(0) + " " + office.counter(1) + " " + office.counter(2) + " " + office.counter(3);
    }

    static String fault(CardOffice office) {
        return office.fault(0) + " at " + office.fault(1);
    }
}
