import java.util.ArrayList;
import java.util.List;
import java.util.Random;
import java.util.function.Supplier;

/** Runs of random calls, always the same ones: the class and PlainOffice must answer alike. */
public final class RandomRunsTest {
    private static final int RUNS = 4000;
    private static final int CALLS = 512;
    private static final int LEAST_LOOKS = 60;
    private static final int[] ODD = {-1, 4, 8, 16, 24, 26, 31, 56, 63, 88, 95, 96, 100, 200, Integer.MIN_VALUE, Integer.MAX_VALUE};
    private static final String[] ALPHABETS = {"12", " 1", " 0123456789", "01K", "9", " 1AJS", " 0123456789STUVWXYZJKLMNOPQRABCDEFGHI"};

    private final Random random;
    private final CardOffice office = new CardOffice();
    private final PlainOffice plain = new PlainOffice();
    private final List<String> told = new ArrayList<>();
    private final String alphabet;
    private final int decks;
    private final int columns;
    private final int wires;
    private final boolean paperRun;

    private RandomRunsTest(int seed) {
        random = new Random(seed);
        alphabet = ALPHABETS[random.nextInt(ALPHABETS.length)];
        decks = 2 + random.nextInt(7);
        columns = 1 + random.nextInt(16);
        wires = 1 + random.nextInt(random.nextBoolean() ? 12 : 45);
        paperRun = random.nextBoolean();
    }

    public static void main(String[] args) {
        Check.sentence("All promises, in random runs");
        int[] faults = new int[5];
        for (int seed = 0; seed < RUNS; seed++) {
            RandomRunsTest run = new RandomRunsTest(seed);
            if (!run.go(faults)) {
                Check.due("run " + seed + ":\n" + String.join("\n", run.told) + "\nis as due", true, false);
                break;
            }
        }
        for (int fault = 0; fault <= 4; fault++) {
            Check.due("fault " + fault + " was met", true, faults[fault] > 100);
        }
        Check.end();
    }

    /** No object gets more than the calls that the document promises an answer for, the looks among them. */
    private boolean go(int[] faults) {
        int working = 1 + random.nextInt(CALLS - LEAST_LOOKS);
        boolean alike = true;
        while (alike && told.size() < working) {
            alike = callOnce();
            faults[plain.fault(0)]++;
        }
        alike = alike && lookAtCounts();
        while (alike && told.size() < CALLS) {
            alike = lookAtAPlace();
        }
        return alike;
    }

    private int upTo(int n) {
        return random.nextInt(150) == 0 ? ODD[random.nextInt(ODD.length)] : random.nextInt(n);
    }

    private int deck() {
        return upTo(decks);
    }

    private int column() {
        return upTo(columns);
    }

    private int board() {
        return upTo(2);
    }

    private int field() {
        return upTo(16) + 16 * random.nextInt(random.nextInt(20) == 0 ? 7 : 3);
    }

    private long half() {
        long bytes = 0;
        for (int k = 0; k < 8; k++) {
            boolean odd = random.nextInt(2000) == 0;
            bytes = bytes << 8 | (odd ? random.nextInt(256) : alphabet.charAt(random.nextInt(alphabet.length())));
        }
        return bytes;
    }

    /** Where the bytes of a half are all alike, columns agree more often. */
    private long evenHalf() {
        return alphabet.charAt(random.nextInt(alphabet.length())) * 0x0101010101010101L;
    }

    private long someHalf() {
        return random.nextInt(3) == 0 ? half() : random.nextInt(3) == 0 ? 0x2020202020202020L : evenHalf();
    }

    private int from() {
        switch (random.nextInt(5)) {
            case 0:
                return 16 + upTo(10);
            case 1:
            case 2:
                return 32 + upTo(24);
            default:
                return column();
        }
    }

    private int to() {
        switch (random.nextInt(8)) {
            case 0:
            case 1:
                return upTo(16);
            case 2:
            case 3:
            case 4:
                return 32 + upTo(24);
            case 5:
            case 6:
                return 64 + upTo(24);
            default:
                return 96 + upTo(paperRun ? 4 : 3);
        }
    }

    private boolean callOnce() {
        int kind = random.nextInt(100);
        if (kind < 36) {
            int d = deck();
            long first = someHalf();
            long last = someHalf();
            return same("card " + d + " " + first + " " + last, () -> office.card(d, first, last), () -> plain.card(d, first, last));
        }
        if (kind < 56) {
            return wireOrStrip();
        }
        if (kind < 60) {
            int b = board();
            int c = upTo(4);
            int l = upTo(4);
            return same("level " + b + " " + c + " " + l, () -> office.level(b, c, l), () -> plain.level(b, c, l));
        }
        if (kind < 75) {
            return cardsMove(kind);
        }
        if (kind < 90) {
            return machinesRun(kind);
        }
        return asked(kind);
    }

    private boolean wireOrStrip() {
        int b = board();
        if (plain.count(10 + (b & 1)) >= wires && random.nextInt(4) == 0) {
            return same("strip " + b, () -> office.strip(b), () -> plain.strip(b));
        }
        if (plain.count(10 + (b & 1)) >= wires && wires < 40) {
            return same("count " + b, () -> office.count(b), () -> plain.count(b));
        }
        int f = from();
        int t = to();
        return same("wire " + b + " " + f + " " + t, () -> office.wire(b, f, t), () -> plain.wire(b, f, t));
    }

    private boolean cardsMove(int kind) {
        int d = deck();
        int o = deck();
        int i = deck();
        int f = column();
        int t = random.nextInt(3) == 0 ? column() : f;
        boolean zones = random.nextBoolean();
        if (kind < 62) {
            return same("pass " + d + " " + f + " " + zones, () -> office.pass(d, f, zones), () -> plain.pass(d, f, zones));
        }
        if (kind < 65) {
            return same("sort " + d + " " + f + " " + t, () -> office.sort(d, f, t), () -> plain.sort(d, f, t));
        }
        if (kind < 72) {
            // Sorted ahead, or the collator would hardly ever run.
            boolean alike = same("sort " + d + " " + f + " " + t, () -> office.sort(d, f, t), () -> plain.sort(d, f, t));
            if (random.nextInt(10) > 0) {
                alike &= same("sort " + o + " " + f + " " + t, () -> office.sort(o, f, t), () -> plain.sort(o, f, t));
            }
            if (kind < 68) {
                return alike & same("merge " + d + " " + o + " " + f + " " + t, () -> office.merge(d, o, f, t), () -> plain.merge(d, o, f, t));
            }
            return alike & same("match " + d + " " + o + " " + i + " " + f + " " + t,
                () -> office.match(d, o, i, f, t), () -> plain.match(d, o, i, f, t));
        }
        int n = random.nextInt(14) - 2;
        return same("cut " + d + " " + n + " " + o, () -> office.cut(d, n, o), () -> plain.cut(d, n, o));
    }

    private boolean machinesRun(int kind) {
        int b = board();
        int d = deck();
        int o = deck();
        int c = column();
        int rate = field();
        int quantity = field();
        int product = field();
        if (kind < 77) {
            return same("reproduce " + b + " " + d + " " + o, () -> office.reproduce(b, d, o), () -> plain.reproduce(b, d, o));
        }
        if (kind < 80) {
            return same("gang " + b + " " + d + " " + c, () -> office.gang(b, d, c), () -> plain.gang(b, d, c));
        }
        if (kind < 84) {
            return same("multiply " + d + " " + rate + " " + quantity + " " + product,
                () -> office.multiply(d, rate, quantity, product), () -> plain.multiply(d, rate, quantity, product));
        }
        return same("tabulate " + b + " " + d, () -> office.tabulate(b, d), () -> plain.tabulate(b, d));
    }

    private boolean asked(int kind) {
        int d = deck();
        int i = upTo(20);
        int c = upTo(24);
        switch (kind) {
            case 90:
                return same("sign " + d + " " + i + " " + c, () -> office.sign(d, i, c), () -> plain.sign(d, i, c));
            case 91:
            case 92:
                return same("printed " + i + " " + c, () -> office.printed(i, c), () -> plain.printed(i, c));
            case 93:
                return same("counter " + d, () -> office.counter(d), () -> plain.counter(d));
            case 94:
                return same("tear", () -> office.tear(), () -> plain.tear());
            case 95:
            case 96:
                return same("fault " + d, () -> office.fault(d), () -> plain.fault(d));
            default:
                return same("count " + i, () -> office.count(i), () -> plain.count(i));
        }
    }

    private boolean same(String call, Supplier<Object> of, Supplier<Object> due) {
        Object got = answer(of);
        Object want = answer(due);
        told.add(call + " answered " + got + ", due is " + want);
        return got.equals(want);
    }

    private static Object answer(Supplier<Object> call) {
        try {
            return call.get();
        } catch (RuntimeException e) {
            return e.getClass();
        }
    }

    private boolean lookAtCounts() {
        boolean alike = true;
        for (int k = 0; k <= 15; k++) {
            int what = k;
            alike &= same("count " + what, () -> office.count(what), () -> plain.count(what));
        }
        for (int k = 0; k <= 3; k++) {
            int c = k;
            alike &= same("counter " + c, () -> office.counter(c), () -> plain.counter(c));
        }
        for (int k = 0; k <= 1; k++) {
            int which = k;
            alike &= same("fault " + which, () -> office.fault(which), () -> plain.fault(which));
        }
        return alike;
    }

    private boolean lookAtAPlace() {
        int deck = random.nextInt(8);
        if (plain.count(deck) > 0 && random.nextInt(3) > 0) {
            int i = random.nextInt(plain.count(deck));
            int column = random.nextInt(16);
            return same("sign " + deck + " " + i + " " + column,
                () -> office.sign(deck, i, column), () -> plain.sign(deck, i, column));
        }
        int i = random.nextInt(1 + plain.count(9));
        int position = random.nextInt(24);
        return same("printed " + i + " " + position, () -> office.printed(i, position), () -> plain.printed(i, position));
    }
}
