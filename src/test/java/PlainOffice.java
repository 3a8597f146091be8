import java.util.ArrayList;
import java.util.Arrays;
import java.util.Comparator;
import java.util.HashMap;
import java.util.LinkedHashSet;
import java.util.List;
import java.util.Map;
import java.util.Set;
import java.util.TreeSet;

/** A second telling of the document, by lists and texts, to compare the class with. */
final class PlainOffice {
    private static final String ORDER = " 0123456789STUVWXYZJKLMNOPQRABCDEFGHI";
    private static final String DIGITS = "-012345678923456789123456789123456789";

    private final List<List<char[]>> decks = new ArrayList<>();
    private final List<Set<List<Integer>>> boards = new ArrayList<>();
    private final int[][] levels = new int[4][4];
    private final List<String> paper = new ArrayList<>();
    private int[] counters = new int[4];
    private int fault = 0;
    private int place = -1;
    private int passes = 0;
    private int brought = 0;

    PlainOffice() {
        for (int k = 0; k < 8; k++) {
            decks.add(new ArrayList<>());
        }
        for (int k = 0; k < 4; k++) {
            boards.add(new LinkedHashSet<>());
            Arrays.fill(levels[k], 3);
        }
    }

    private static boolean in(int x, int low, int high) {
        return low <= x && x <= high;
    }

    private static void argument(boolean holds) {
        if (!holds) {
            throw new IllegalArgumentException();
        }
    }

    private static void index(boolean holds) {
        if (!holds) {
            throw new IndexOutOfBoundsException();
        }
    }

    private int all() {
        return decks.stream().mapToInt(List::size).sum();
    }

    private static int digit(char sign) {
        char digit = DIGITS.charAt(ORDER.indexOf(sign));
        return digit == '-' ? -1 : digit - '0';
    }

    private static int zone(char sign) {
        int rank = ORDER.indexOf(sign);
        return rank < 11 ? 0 : rank < 19 ? 1 : rank < 28 ? 2 : 3;
    }

    private static String key(char[] card, int from, int to) {
        StringBuilder key = new StringBuilder();
        for (int c = from; c <= to; c++) {
            key.append((char) ('a' + ORDER.indexOf(card[c])));
        }
        return key.toString();
    }

    private static List<String> keys(List<char[]> deck, int from, int to) {
        List<String> keys = new ArrayList<>();
        for (char[] card : deck) {
            keys.add(key(card, from, to));
        }
        return keys;
    }

    private static boolean sorted(List<char[]> deck, int from, int to) {
        List<String> keys = keys(deck, from, to);
        List<String> inOrder = new ArrayList<>(keys);
        inOrder.sort(null);
        return keys.equals(inOrder);
    }

    boolean card(int deck, long first, long last) {
        char[] card = new char[16];
        for (int k = 0; k < 16; k++) {
            long half = k < 8 ? first : last;
            card[k] = (char) (half >> 8 * (7 - k % 8) & 0xff);
            if (ORDER.indexOf(card[k]) < 0) {
                return false;
            }
        }
        return in(deck, 0, 7) && all() < 200 && decks.get(deck).add(card);
    }

    boolean wire(int board, int from, int to) {
        boolean jacks = (in(from, 0, 25) || in(from, 32, 55))
            && (in(to, 0, 15) || in(to, 32, 55) || in(to, 64, 87) || in(to, 96, 99));
        return in(board, 0, 3) && jacks && boards.get(board).size() < 40 && boards.get(board).add(List.of(from, to));
    }

    int strip(int board) {
        if (!in(board, 0, 3)) {
            return -1;
        }
        int wires = boards.get(board).size();
        boards.get(board).clear();
        Arrays.fill(levels[board], 3);
        return wires;
    }

    boolean level(int board, int counter, int level) {
        if (!in(board, 0, 3) || !in(counter, 0, 3) || !in(level, 0, 3)) {
            return false;
        }
        levels[board][counter] = level;
        return true;
    }

    int pass(int deck, int column, boolean zones) {
        argument(in(deck, 0, 7) && in(column, 0, 15));
        passes++;
        Comparator<char[]> order = Comparator.comparingInt(card -> zones ? zone(card[column]) : digit(card[column]));
        decks.get(deck).sort(order);
        Set<Integer> pockets = new TreeSet<>();
        for (char[] card : decks.get(deck)) {
            pockets.add(zones ? zone(card[column]) : digit(card[column]));
        }
        return pockets.size();
    }

    int sort(int deck, int from, int to) {
        argument(in(deck, 0, 7) && 0 <= from && from <= to && to <= 15);
        List<char[]> cards = decks.get(deck);
        if (sorted(cards, from, to)) {
            return 0;
        }
        int made = 0;
        for (int c = from; c <= to; c++) {
            int column = c;
            made += cards.stream().anyMatch(card -> zone(card[column]) > 0) ? 2 : 1;
        }
        cards.sort(Comparator.comparing(card -> key(card, from, to)));
        passes += made;
        return made;
    }

    int merge(int deck, int other, int from, int to) {
        argument(in(deck, 0, 7) && in(other, 0, 7) && deck != other && 0 <= from && from <= to && to <= 15);
        if (!sorted(decks.get(deck), from, to) || !sorted(decks.get(other), from, to)) {
            throw new IllegalStateException();
        }
        brought += decks.get(other).size();
        decks.get(deck).addAll(decks.get(other));
        decks.get(other).clear();
        decks.get(deck).sort(Comparator.comparing(card -> key(card, from, to)));
        return decks.get(deck).size();
    }

    int match(int deck, int other, int into, int from, int to) {
        argument(in(deck, 0, 7) && in(other, 0, 7) && in(into, 0, 7) && 0 <= from && from <= to && to <= 15);
        argument(deck != other && deck != into && other != into);
        if (!sorted(decks.get(deck), from, to) || !sorted(decks.get(other), from, to)) {
            throw new IllegalStateException();
        }
        Set<String> common = new TreeSet<>(keys(decks.get(deck), from, to));
        common.retainAll(keys(decks.get(other), from, to));
        int came = 0;
        for (String key : common) {
            for (int from2 : new int[] {deck, other}) {
                for (char[] card : decks.get(from2)) {
                    if (key(card, from, to).equals(key)) {
                        decks.get(into).add(card);
                        came++;
                    }
                }
            }
        }
        decks.get(deck).removeIf(card -> common.contains(key(card, from, to)));
        decks.get(other).removeIf(card -> common.contains(key(card, from, to)));
        brought += came;
        return came;
    }

    /** What comes to each jack of a range from a card and the digits. */
    private Map<Integer, Set<Character>> impulses(int board, char[] card, int low, int high) {
        Map<Integer, Set<Character>> come = new HashMap<>();
        for (List<Integer> wire : boards.get(board)) {
            int from = wire.get(0);
            if (from < 32 && in(wire.get(1), low, high)) {
                char sign = from < 16 ? card[from] : (char) ('0' + from - 16);
                come.computeIfAbsent(wire.get(1) - low, k -> new TreeSet<>()).add(sign);
            }
        }
        return come;
    }

    private static boolean differ(Map<Integer, Set<Character>> come) {
        return come.values().stream().anyMatch(signs -> signs.size() > 1);
    }

    private static char[] signs(Map<Integer, Set<Character>> come, int size) {
        char[] row = new char[size];
        for (int k = 0; k < size; k++) {
            row[k] = come.containsKey(k) ? come.get(k).iterator().next() : ' ';
        }
        return row;
    }

    private int stop(Set<Integer> faults, int i) {
        fault = new TreeSet<>(faults).first();
        place = i;
        return i;
    }

    private int done(int cards) {
        fault = 0;
        place = -1;
        return cards;
    }

    int reproduce(int board, int deck, int into) {
        argument(in(board, 0, 3) && in(deck, 0, 7) && in(into, 0, 7) && deck != into);
        for (int i = 0; i < decks.get(deck).size(); i++) {
            Map<Integer, Set<Character>> come = impulses(board, decks.get(deck).get(i), 0, 15);
            Set<Integer> faults = new TreeSet<>();
            if (differ(come)) {
                faults.add(2);
            }
            if (all() == 200) {
                faults.add(4);
            }
            if (!faults.isEmpty()) {
                return stop(faults, i);
            }
            decks.get(into).add(signs(come, 16));
        }
        return done(decks.get(deck).size());
    }

    int gang(int board, int deck, int column) {
        argument(in(board, 0, 3) && in(deck, 0, 7) && in(column, 0, 15));
        char[] master = null;
        for (int i = 0; i < decks.get(deck).size(); i++) {
            char[] card = decks.get(deck).get(i);
            if (zone(card[column]) == 2) {
                master = card;
                continue;
            }
            if (master == null) {
                continue;
            }
            Map<Integer, Set<Character>> come = impulses(board, master, 0, 15);
            Set<Integer> faults = new TreeSet<>();
            if (differ(come)) {
                faults.add(2);
            }
            for (int c : come.keySet()) {
                if (card[c] != ' ' && !come.get(c).equals(Set.of(card[c]))) {
                    faults.add(1);
                }
            }
            if (!faults.isEmpty()) {
                return stop(faults, i);
            }
            for (int c : come.keySet()) {
                card[c] = come.get(c).iterator().next();
            }
        }
        return done(decks.get(deck).size());
    }

    private static TreeSet<Integer> columns(int field) {
        TreeSet<Integer> columns = new TreeSet<>();
        argument(in(field, 0, 95));
        for (int k = 0; k <= field / 16; k++) {
            argument(field % 16 + k <= 15);
            columns.add(field % 16 + k);
        }
        return columns;
    }

    private static String text(char[] card, TreeSet<Integer> columns) {
        return new String(card, columns.first(), columns.size());
    }

    int multiply(int deck, int rate, int quantity, int product) {
        argument(in(deck, 0, 7));
        TreeSet<Integer> first = columns(rate);
        TreeSet<Integer> second = columns(quantity);
        TreeSet<Integer> third = columns(product);
        argument(third.stream().noneMatch(c -> first.contains(c) || second.contains(c)));
        for (int i = 0; i < decks.get(deck).size(); i++) {
            char[] card = decks.get(deck).get(i);
            String a = text(card, first).replace(' ', '0');
            String b = text(card, second).replace(' ', '0');
            if (!(a + b).matches("[0-9]*")) {
                return stop(Set.of(1), i);
            }
            java.math.BigDecimal tenth = new java.math.BigDecimal(a).multiply(new java.math.BigDecimal(b)).movePointLeft(1);
            String number = tenth.setScale(0, java.math.RoundingMode.HALF_UP).toPlainString();
            if (number.length() > third.size()) {
                return stop(Set.of(3), i);
            }
            number = "0".repeat(third.size() - number.length()) + number;
            String there = text(card, third);
            for (int k = 0; k < number.length(); k++) {
                if (there.charAt(k) != ' ' && there.charAt(k) != number.charAt(k)) {
                    return stop(Set.of(1), i);
                }
            }
            System.arraycopy(number.toCharArray(), 0, card, third.first(), number.length());
        }
        return done(decks.get(deck).size());
    }

    /** The line of a total, or null if two impulses differ; no line ("") if no counter has the level. */
    private String total(int board, int level) {
        Map<Integer, Set<Character>> come = new HashMap<>();
        boolean has = false;
        for (int c = 0; c < 4; c++) {
            has |= levels[board][c] == level;
        }
        for (List<Integer> wire : boards.get(board)) {
            int exit = wire.get(0) - 32;
            if (exit >= 0 && in(wire.get(1), 32, 55) && levels[board][exit / 6] == level) {
                String wheels = String.format("%6d", counters[exit / 6]);
                come.computeIfAbsent(wire.get(1) - 32, k -> new TreeSet<>()).add(wheels.charAt(5 - exit % 6));
            }
        }
        return differ(come) ? null : has ? new String(signs(come, 24)) : "";
    }

    private boolean breaks(int board, int level, char[] ahead, char[] card) {
        for (List<Integer> wire : boards.get(board)) {
            int from = wire.get(0);
            if (from < 16 && in(wire.get(1), 96 + level, 98) && ahead[from] != card[from]) {
                return true;
            }
        }
        return false;
    }

    int tabulate(int board, int deck) {
        argument(in(board, 0, 3) && in(deck, 0, 7));
        counters = new int[4];
        boolean list = boards.get(board).stream().anyMatch(wire -> wire.get(1) == 99);
        List<char[]> cards = decks.get(deck);
        for (int i = 0; i <= cards.size() && !cards.isEmpty(); i++) {
            boolean end = i == cards.size();
            Set<Integer> faults = new TreeSet<>();
            List<String> lines = new ArrayList<>();
            int[] after = counters.clone();
            for (int level = 0; level < 4; level++) {
                if (end || i > 0 && level < 3 && breaks(board, level, cards.get(i - 1), cards.get(i))) {
                    String total = total(board, level);
                    if (total == null) {
                        faults.add(2);
                    } else if (!total.isEmpty()) {
                        lines.add(total);
                    }
                    for (int c = 0; c < 4; c++) {
                        after[c] = levels[board][c] == level ? 0 : after[c];
                    }
                }
            }
            if (!end) {
                goOn(board, cards.get(i), list, lines, after, faults);
            }
            if (paper.size() + lines.size() > 100) {
                faults.add(4);
            }
            if (!faults.isEmpty()) {
                return stop(faults, i);
            }
            paper.addAll(lines);
            counters = after;
        }
        return done(cards.size());
    }

    private void goOn(int board, char[] card, boolean list, List<String> lines, int[] after, Set<Integer> faults) {
        Map<Integer, Set<Character>> line = impulses(board, card, 32, 55);
        Map<Integer, Set<Character>> entries = impulses(board, card, 64, 87);
        if (list && differ(line) || differ(entries)) {
            faults.add(2);
        }
        if (list) {
            lines.add(new String(signs(line, 24)));
        }
        char[] entered = signs(entries, 24);
        for (int c = 0; c < 4; c++) {
            StringBuilder wheels = new StringBuilder();
            for (int w = 5; w >= 0; w--) {
                wheels.append(Math.max(0, digit(entered[6 * c + w])));
            }
            after[c] += Integer.parseInt(wheels.toString());
            if (after[c] > 999999) {
                faults.add(3);
            }
        }
    }

    boolean cut(int deck, int n, int into) {
        if (!in(deck, 0, 7) || !in(into, 0, 7) || deck == into || decks.get(deck).size() < n) {
            return false;
        }
        for (int k = 0; k < n; k++) {
            decks.get(into).add(decks.get(deck).remove(0));
        }
        return true;
    }

    int sign(int deck, int i, int column) {
        index(in(deck, 0, 7) && in(column, 0, 15) && in(i, 0, decks.get(deck).size() - 1));
        return decks.get(deck).get(i)[column];
    }

    int printed(int i, int position) {
        index(in(i, 0, paper.size() - 1) && in(position, 0, 23));
        return paper.get(i).charAt(position);
    }

    int counter(int c) {
        index(in(c, 0, 3));
        return counters[c];
    }

    int tear() {
        int lines = paper.size();
        paper.clear();
        return lines;
    }

    int fault(int which) {
        return which == 0 ? fault : which == 1 ? place : -1;
    }

    int count(int what) {
        if (in(what, 0, 7)) {
            return decks.get(what).size();
        }
        if (in(what, 10, 13)) {
            return boards.get(what - 10).size();
        }
        return what == 8 ? all() : what == 9 ? paper.size() : what == 14 ? passes : what == 15 ? brought : -1;
    }
}
