/** The edges of promise 13: the faults 2, 3 and 4 of the tabulator, and their order. */
public final class TabulatorFaultsTest {
    public static void main(String[] args) {
        oneSignInALine();
        twoSignsInALine();
        aBlankInALine();
        twoSignsWithoutALine();
        oneSignAtAnEntry();
        twoSignsAtAnEntry();
        aBlankAtAnEntry();
        signsOfOneDigitAtAnEntry();
        oneSignInATotal();
        twoSignsInATotalOfEachLevel();
        aBlankInATotal();
        twoSignsInATotalThatDoesNotCome();
        twoSignsInTheLastTotals();
        twoSignsInTheLastTotalsOfEachLevel();
        twoSignsAtTwoTimes();
        exitsOfTwoLevelsAtOnePosition();
        twoSignsAtOtherJacks();
        theGreatestCounter();
        oneMoreThanTheGreatest();
        theGreatestByOneCard();
        theGreatestCountedTwice();
        aTotalMakesRoomInItsCounters();
        aTotalMakesNoRoomInOtherCounters();
        oneHundredLines();
        theLineThatHasNoRoom();
        aFullPaperAndNoLines();
        roomForAllLinesOfACard();
        noRoomForAllLinesOfACard();
        roomForTheLastTotals();
        noRoomForTheLastTotals();
        faultsAreLookedForAheadOfTotals();
        clashAheadOfTooBig();
        clashAheadOfNoRoom();
        tooBigAheadOfNoRoom();
        allThreeFaults();
        leastFaultAtTheEnd();
        stopsAheadOfACard();
        Check.end();
    }

    private static void done(CardOffice x, int cards, int answer) {
        Check.due("gone through", cards, answer);
        Check.due("fault", "0 at -1", Desk.fault(x));
    }

    private static void stopped(CardOffice x, int fault, int cards, int answer) {
        Check.due("gone through", cards, answer);
        Check.due("fault", fault + " at " + cards, Desk.fault(x));
    }

    /** Columns 0 and 1 at one position, in lines of cards. */
    private static CardOffice twoAtAPosition(String... texts) {
        CardOffice x = Desk.officeWith(0, texts);
        Desk.wireAll(x, 0, 15, 99, 0, 55, 1, 55);
        return x;
    }

    private static void oneSignInALine() {
        Check.sentence("Terms: at a jack two wires that count at the same time must bring one sign, in a line they do");
        CardOffice x = twoAtAPosition("11", "  ", "AA");
        done(x, 3, x.tabulate(0, 0));
        Check.due("the last position", (int) '1', x.printed(0, 23));
    }

    private static void twoSignsInALine() {
        Check.sentence("Terms: else it is fault 2, in a line of a card");
        for (String text : new String[] {"12", "1A", "AJ", "JS"}) {
            CardOffice x = twoAtAPosition("11", text);
            stopped(x, 2, 1, x.tabulate(0, 0));
            Check.due("lines", 1, x.count(9));
        }
        CardOffice y = Desk.officeWith(0, "1");
        Desk.wireAll(y, 0, 15, 99, 16, 32, 25, 32);
        stopped(y, 2, 0, y.tabulate(0, 0));
    }

    private static void aBlankInALine() {
        Check.sentence("Terms: a blank is a sign, in a line of a card");
        for (String text : new String[] {" 0", "0 ", " A"}) {
            CardOffice x = twoAtAPosition(text);
            stopped(x, 2, 0, x.tabulate(0, 0));
        }
    }

    private static void twoSignsWithoutALine() {
        Check.sentence("Terms: wires from columns count in lines of cards (if one is printed)");
        CardOffice x = Desk.officeWith(0, "12");
        Desk.wireAll(x, 0, 0, 55, 1, 55);
        done(x, 1, x.tabulate(0, 0));
        Check.due("paper", "", Desk.paper(x));
    }

    /** Columns 0 and 1 at one entry. */
    private static CardOffice twoAtAnEntry(int entry, String... texts) {
        CardOffice x = Desk.officeWith(0, texts);
        Desk.wireAll(x, 0, 0, entry, 1, entry);
        return x;
    }

    private static void oneSignAtAnEntry() {
        Check.sentence("Terms: at a jack two wires must bring one sign, at an entry they do");
        CardOffice x = twoAtAnEntry(64, "11", "  ", "AA");
        done(x, 3, x.tabulate(0, 0));
    }

    private static void twoSignsAtAnEntry() {
        Check.sentence("Terms: else it is fault 2, at an entry");
        for (int entry = 64; entry <= 87; entry++) {
            CardOffice x = twoAtAnEntry(entry, "33", "12");
            stopped(x, 2, 1, x.tabulate(0, 0));
            int due = 3 * (int) Math.pow(10, (entry - 64) % 6);
            Check.due("what was counted of the first card", due, x.counter((entry - 64) / 6));
        }
    }

    private static void aBlankAtAnEntry() {
        Check.sentence("Terms: a blank is a sign, at an entry, though it counts 0");
        CardOffice x = twoAtAnEntry(64, " 0");
        stopped(x, 2, 0, x.tabulate(0, 0));
    }

    private static void signsOfOneDigitAtAnEntry() {
        Check.sentence("Terms: must bring one sign, at an entry, though they have one digit");
        for (String text : new String[] {"1A", "AJ", "J1", "2S", "9Z"}) {
            CardOffice x = twoAtAnEntry(64, text);
            stopped(x, 2, 0, x.tabulate(0, 0));
        }
    }

    /** Counters 0 and 1 count columns 1 and 2 and have a level; their exits are at one position; column 0 breaks level 2. */
    private static CardOffice twoExits(int level, String... texts) {
        CardOffice x = Desk.officeWith(0, texts);
        Desk.wireAll(x, 0, 0, 98, 1, 64, 2, 70, 32, 55, 38, 55);
        x.level(0, 0, level);
        x.level(0, 1, level);
        return x;
    }

    private static void oneSignInATotal() {
        Check.sentence("Terms: at a jack two wires must bring one sign, in a total they do");
        for (int level = 0; level < 4; level++) {
            CardOffice x = twoExits(level, "A11", "A12", "A10", "B77");
            done(x, 4, x.tabulate(0, 0));
        }
    }

    private static void twoSignsInATotalOfEachLevel() {
        Check.sentence("Terms: else it is fault 2, in a total ahead of a card");
        for (int level = 0; level < 3; level++) {
            CardOffice x = twoExits(level, "A11", "A12", "B77");
            stopped(x, 2, 2, x.tabulate(0, 0));
            Check.due("lines", 0, x.count(9));
            Check.due("counters", "2 3 0 0", Desk.counters(x));
        }
    }

    private static void aBlankInATotal() {
        Check.sentence("Terms: a blank is a sign, in a total in place of a 0");
        CardOffice x = Desk.officeWith(0, "A05", "B05");
        Desk.wireAll(x, 0, 0, 96, 1, 64, 2, 70, 32, 40, 39, 40);
        x.level(0, 0, 0);
        x.level(0, 1, 0);
        stopped(x, 2, 1, x.tabulate(0, 0));
        CardOffice y = Desk.officeWith(0, "A05", "B05");
        Desk.wireAll(y, 0, 0, 96, 1, 64, 2, 70, 33, 40, 39, 40);
        y.level(0, 0, 0);
        y.level(0, 1, 0);
        done(y, 2, y.tabulate(0, 0));
    }

    private static void twoSignsInATotalThatDoesNotCome() {
        Check.sentence("Terms: two wires that count at the same time, in a total that does not come");
        CardOffice x = twoExits(0, "A12", "A21", "B11");
        done(x, 3, x.tabulate(0, 0));
        CardOffice y = twoExits(2, "A12", "B21");
        y.strip(0);
        Desk.wireAll(y, 0, 0, 97, 1, 64, 2, 70, 32, 55, 38, 55);
        y.level(0, 0, 2);
        y.level(0, 1, 2);
        done(y, 2, y.tabulate(0, 0));
    }

    private static void twoSignsInTheLastTotals() {
        Check.sentence("Terms: those of the last totals ahead of these: then at the end");
        CardOffice x = twoExits(3, "A11", "B12");
        stopped(x, 2, 2, x.tabulate(0, 0));
        Check.due("lines", 0, x.count(9));
        Check.due("counters", "2 3 0 0", Desk.counters(x));
    }

    private static void twoSignsInTheLastTotalsOfEachLevel() {
        Check.sentence("Terms: the last totals of levels 0 to 3, none is done if one has fault 2");
        for (int level = 0; level < 4; level++) {
            CardOffice x = twoExits(level, "A12");
            x.level(0, 2, 0);
            x.level(0, 3, 3);
            stopped(x, 2, 1, x.tabulate(0, 0));
            Check.due("lines", 0, x.count(9));
            Check.due("counters", "1 2 0 0", Desk.counters(x));
        }
    }

    private static void twoSignsAtTwoTimes() {
        Check.sentence("Terms: two wires that count at the same time, a column and an exit do not");
        CardOffice x = Desk.officeWith(0, "A7", "B7");
        Desk.wireAll(x, 0, 0, 99, 0, 96, 0, 32, 1, 64, 32, 32);
        x.level(0, 0, 0);
        done(x, 2, x.tabulate(0, 0));
        Check.due("paper", "A|7|B|7|", Desk.paper(x));
    }

    private static void exitsOfTwoLevelsAtOnePosition() {
        Check.sentence("Terms: two wires that count at the same time, exits of two levels do not");
        CardOffice x = Desk.officeWith(0, "A12", "B34");
        Desk.wireAll(x, 0, 0, 98, 1, 64, 2, 70, 2, 76, 1, 82, 32, 32, 38, 32, 44, 32, 50, 32);
        Edges.aLevelForEach(x, 0);
        done(x, 2, x.tabulate(0, 0));
        Check.due("paper", "1|2|2|3|4|4|4", Desk.paper(x));
    }

    private static void twoSignsAtOtherJacks() {
        Check.sentence("Terms: two wires that count, at columns, control and list none does");
        for (int to : new int[] {0, 15, 96, 97, 98, 99}) {
            CardOffice x = Desk.officeWith(0, "12", "34");
            Desk.wireAll(x, 0, 0, to, 1, to, 16, to, 17, to, 32, to, 33, to);
            done(x, 2, x.tabulate(0, 0));
        }
        for (int to : new int[] {64, 87}) {
            CardOffice x = Desk.officeWith(0, "12", "34");
            Desk.wireAll(x, 0, 0, 70, 32, to, 38, to, 39, to);
            done(x, 2, x.tabulate(0, 0));
        }
    }

    /** A counter with all six wheels wired from columns 0 .. 5. */
    private static CardOffice sixWheels(int counter, String... texts) {
        CardOffice x = Desk.officeWith(0, texts);
        for (int wheel = 0; wheel < 6; wheel++) {
            Desk.wireAll(x, 0, 5 - wheel, 64 + 6 * counter + wheel);
        }
        return x;
    }

    private static void theGreatestCounter() {
        Check.sentence("Terms: more than 999999 is fault 3, 999999 is none");
        for (int counter = 0; counter < 4; counter++) {
            CardOffice x = sixWheels(counter, "999998", "     1", "     0", "");
            for (int wheel = 0; wheel < 6; wheel++) {
                Desk.wireAll(x, 0, 32 + 6 * counter + wheel, 37 - wheel);
            }
            done(x, 4, x.tabulate(0, 0));
            Check.due("paper", "999999", Desk.paper(x));
        }
    }

    private static void oneMoreThanTheGreatest() {
        Check.sentence("Terms: more than 999999 is fault 3, 1000000 is");
        for (int counter = 0; counter < 4; counter++) {
            CardOffice x = sixWheels(counter, "999998", "     1", "     1");
            stopped(x, 3, 2, x.tabulate(0, 0));
            Check.due("counter", 999999, x.counter(counter));
            Check.due("lines", 0, x.count(9));
        }
    }

    private static void theGreatestByOneCard() {
        Check.sentence("Terms: more than 999999 is fault 3, 999999 of one card is none");
        CardOffice x = sixWheels(0, "999999", "     1");
        stopped(x, 3, 1, x.tabulate(0, 0));
        Check.due("counter", 999999, x.counter(0));
        CardOffice y = sixWheels(0, "IRZIRZ", "     A");
        stopped(y, 3, 1, y.tabulate(0, 0));
        Check.due("counter", 999999, y.counter(0));
    }

    private static void theGreatestCountedTwice() {
        Check.sentence("Terms: more than 999999 is fault 3, the most that can come");
        CardOffice x = sixWheels(3, "999999", "999999");
        stopped(x, 3, 1, x.tabulate(0, 0));
        Check.due("counter", 999999, x.counter(3));
    }

    private static void aTotalMakesRoomInItsCounters() {
        Check.sentence("Terms: then these counters are 0, then the counters count");
        for (int level = 0; level < 3; level++) {
            CardOffice x = sixWheels(2, "999999A", "999999B", "000001B");
            Desk.wireAll(x, 0, 6, 98);
            x.level(0, 2, level);
            stopped(x, 3, 2, x.tabulate(0, 0));
            Check.due("lines", 1, x.count(9));
            Check.due("counter", 999999, x.counter(2));
        }
    }

    private static void aTotalMakesNoRoomInOtherCounters() {
        Check.sentence("Terms: these counters are 0, and counters of a level that does not break are not");
        for (int level = 1; level < 4; level++) {
            CardOffice x = sixWheels(2, "999999A", "000001B");
            Desk.wireAll(x, 0, 6, 95 + level);
            x.level(0, 2, level);
            x.level(0, 0, 0);
            stopped(x, 3, 1, x.tabulate(0, 0));
            Check.due("no line of the level that breaks", 0, x.count(9));
            Check.due("counter", 999999, x.counter(2));
        }
    }

    private static void oneHundredLines() {
        Check.sentence("Terms: the paper has at most 100 lines, 100 are taken");
        CardOffice x = Edges.officeOf(98, "1");
        Desk.putAll(x, 0, "2");
        Desk.wireAll(x, 0, 0, 99, 0, 32);
        done(x, 99, x.tabulate(0, 0));
        Check.due("lines", 100, x.count(9));
        Check.due("the last card", (int) '2', x.printed(98, 0));
        Check.due("the last line", 32, x.printed(99, 0));
    }

    private static void theLineThatHasNoRoom() {
        Check.sentence("Terms: the paper has at most 100 lines, the first line that has no room");
        CardOffice x = Edges.officeOf(101, "1");
        Desk.wireAll(x, 0, 0, 99, 0, 32, 17, 64);
        stopped(x, 4, 100, x.tabulate(0, 0));
        Check.due("lines", 100, x.count(9));
        Check.due("the last line", (int) '1', x.printed(99, 0));
        Check.due("counter", 100, x.counter(0));
        CardOffice y = Edges.officeOf(100, "1");
        Desk.wireAll(y, 0, 0, 99, 0, 32, 17, 64);
        stopped(y, 4, 100, y.tabulate(0, 0));
        Check.due("lines without the last total", 100, y.count(9));
        Check.due("counter", 100, y.counter(0));
    }

    private static void aFullPaperAndNoLines() {
        Check.sentence("Terms: fault 4 if there is no room for all lines of a card, of one without lines");
        CardOffice x = Desk.officeWith(0, "1", "2");
        Edges.printBlankLines(x, 100);
        Desk.wireAll(x, 0, 0, 64, 0, 98);
        stopped(x, 4, 2, x.tabulate(0, 0));
        Check.due("both cards were counted", 3, x.counter(0));
        done(x, 0, x.tabulate(0, 1));
        Check.due("lines", 100, x.count(9));
        x.tear();
        done(x, 2, x.tabulate(0, 0));
        Check.due("lines of the next paper", 1, x.count(9));
    }

    /** Cards that differ, so that the second has the totals of levels 0, 1, 2 and a line of its own. */
    private static CardOffice fourLines(int linesAhead) {
        CardOffice x = Desk.officeWith(0, "1", "2");
        Edges.printBlankLines(x, linesAhead);
        Desk.wireAll(x, 0, 0, 99, 0, 98, 0, 32, 17, 64);
        Edges.aLevelForEach(x, 0);
        return x;
    }

    private static void roomForAllLinesOfACard() {
        Check.sentence("Terms: fault 4 if there is no room for all lines of a card, there is");
        CardOffice x = fourLines(95);
        stopped(x, 4, 2, x.tabulate(0, 0));
        Check.due("lines, without the last totals", 100, x.count(9));
        Check.due("the last card", (int) '2', x.printed(99, 0));
        Check.due("counters", "1 0 0 0", Desk.counters(x));
    }

    private static void noRoomForAllLinesOfACard() {
        Check.sentence("Terms: fault 4 if there is no room for all lines of a card, there is for all but one");
        for (int lines = 96; lines <= 99; lines++) {
            CardOffice x = fourLines(lines);
            stopped(x, 4, 1, x.tabulate(0, 0));
            Check.due("lines", lines + 1, x.count(9));
            Check.due("counters", "1 0 0 0", Desk.counters(x));
        }
    }

    private static CardOffice lastFourLines(int linesAhead) {
        CardOffice x = Desk.officeWith(0, "1", "2");
        Edges.printBlankLines(x, linesAhead);
        Desk.wireAll(x, 0, 17, 82, 50, 32);
        Edges.aLevelForEach(x, 0);
        return x;
    }

    private static void roomForTheLastTotals() {
        Check.sentence("Terms: fault 4 if there is no room for those of the last totals together, there is");
        CardOffice x = lastFourLines(96);
        done(x, 2, x.tabulate(0, 0));
        Check.due("lines", 100, x.count(9));
        Check.due("the last line", (int) '2', x.printed(99, 0));
    }

    private static void noRoomForTheLastTotals() {
        Check.sentence("Terms: fault 4 if there is no room for those of the last totals together, for all but one");
        for (int lines = 97; lines <= 100; lines++) {
            CardOffice x = lastFourLines(lines);
            stopped(x, 4, 2, x.tabulate(0, 0));
            Check.due("lines", lines, x.count(9));
            Check.due("counters", "0 0 0 2", Desk.counters(x));
        }
        CardOffice y = lastFourLines(99);
        for (int counter = 0; counter < 4; counter++) {
            y.level(0, counter, 2);
        }
        done(y, 2, y.tabulate(0, 0));
        Check.due("lines, with a total of one level", 100, y.count(9));
    }

    private static void faultsAreLookedForAheadOfTotals() {
        Check.sentence("Terms: all faults of a card are looked for ahead of its totals");
        CardOffice x = sixWheels(3, "111111A", "999999B");
        Desk.wireAll(x, 0, 6, 96, 17, 64);
        x.level(0, 0, 0);
        stopped(x, 3, 1, x.tabulate(0, 0));
        Check.due("no total, too big", 0, x.count(9));
        Check.due("counters, too big", "1 0 0 111111", Desk.counters(x));

        CardOffice y = Desk.officeWith(0, "A11", "B12");
        Desk.wireAll(y, 0, 0, 96, 1, 70, 2, 70, 17, 64);
        y.level(0, 0, 0);
        stopped(y, 2, 1, y.tabulate(0, 0));
        Check.due("no total, two signs at an entry", 0, y.count(9));
        Check.due("counters, two signs at an entry", "1 1 0 0", Desk.counters(y));

        CardOffice z = Desk.officeWith(0, "A11", "B12");
        Desk.wireAll(z, 0, 0, 96, 0, 99, 1, 32, 2, 32, 17, 64);
        z.level(0, 0, 0);
        stopped(z, 2, 1, z.tabulate(0, 0));
        Check.due("the line of the first card, no total", "1", Desk.paper(z));
        Check.due("counters, two signs in the line", "1 0 0 0", Desk.counters(z));

        CardOffice w = Desk.officeWith(0, "A11", "B12");
        Desk.wireAll(w, 0, 0, 97, 17, 64, 1, 70, 25, 76, 38, 32, 44, 32);
        w.level(0, 0, 0);
        w.level(0, 1, 1);
        w.level(0, 2, 1);
        stopped(w, 2, 1, w.tabulate(0, 0));
        Check.due("no total of level 0 if that of level 1 has two signs", 0, w.count(9));
        Check.due("counters, two signs in a total", "1 1 9 0", Desk.counters(w));
    }

    private static void clashAheadOfTooBig() {
        Check.sentence("Terms: of several faults of one card the least number is told, 2 and 3");
        CardOffice x = sixWheels(0, "99999911", "00000112");
        Desk.wireAll(x, 0, 6, 70, 7, 70);
        stopped(x, 2, 1, x.tabulate(0, 0));
        CardOffice y = sixWheels(0, "99999911", "00000111");
        Desk.wireAll(y, 0, 6, 70, 7, 70);
        stopped(y, 3, 1, y.tabulate(0, 0));
    }

    private static void clashAheadOfNoRoom() {
        Check.sentence("Terms: of several faults of one card the least number is told, 2 and 4");
        for (String text : new String[] {"12", "11"}) {
            CardOffice x = twoAtAPosition(text);
            Edges.printBlankLines(x, 100);
            stopped(x, text.equals("12") ? 2 : 4, 0, x.tabulate(0, 0));
        }
    }

    private static void tooBigAheadOfNoRoom() {
        Check.sentence("Terms: of several faults of one card the least number is told, 3 and 4");
        for (String second : new String[] {"000001B", "000000B"}) {
            CardOffice x = sixWheels(3, "999999A", second);
            Edges.printBlankLines(x, 100);
            Desk.wireAll(x, 0, 6, 96);
            x.level(0, 0, 0);
            stopped(x, second.equals("000001B") ? 3 : 4, 1, x.tabulate(0, 0));
        }
    }

    private static void allThreeFaults() {
        Check.sentence("Terms: of several faults of one card the least number is told, 2, 3 and 4");
        CardOffice x = sixWheels(3, "999999A11", "000001B12");
        Edges.printBlankLines(x, 100);
        Desk.wireAll(x, 0, 6, 96, 7, 70, 8, 70);
        x.level(0, 0, 0);
        stopped(x, 2, 1, x.tabulate(0, 0));
    }

    private static void leastFaultAtTheEnd() {
        Check.sentence("Terms: of several faults the least number is told, at the end");
        for (String text : new String[] {"A12", "A11"}) {
            CardOffice x = twoExits(3, text);
            Edges.printBlankLines(x, 100);
            stopped(x, text.equals("A12") ? 2 : 4, 1, x.tabulate(0, 0));
        }
    }

    private static void stopsAheadOfACard() {
        Check.sentence("Terms: stops ahead of one, of which it does nothing; what was done before stays done");
        CardOffice x = Desk.officeWith(0, "A1", "B2", "C3", "D9");
        Desk.wireAll(x, 0, 0, 99, 0, 32, 0, 96, 1, 69, 37, 33);
        stopped(x, 3, 3, x.tabulate(0, 0));
        Check.due("paper", "A|B|C", Desk.paper(x));
        Check.due("counters", "600000 0 0 0", Desk.counters(x));
    }
}
