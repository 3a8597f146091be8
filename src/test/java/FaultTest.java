/** Promise 19: fault, over the machines that set it and the calls that do not. */
public final class FaultTest {
    public static void main(String[] args) {
        latestMachine();
        otherCallsLeaveIt();
        wrongWhich();
        Check.end();
    }

    private static void latestMachine() {
        CardOffice x = Desk.officeWith(0, "12", "K2", "A3");
        Check.due("at first", "0 at -1", Desk.fault(x));
        x.multiply(0, 0, 1, 2);
        Check.due("multiply", "1 at 1", Desk.fault(x));
        x.reproduce(0, 0, 1);
        Check.due("reproduce", "0 at -1", Desk.fault(x));
        Desk.wireAll(x, 0, 0, 0, 1, 0, 0, 99, 0, 32, 1, 32);
        x.reproduce(0, 0, 1);
        Check.due("reproduce", "2 at 0", Desk.fault(x));
        x.gang(0, 0, 0);
        Check.due("gang", "1 at 2", Desk.fault(x));
        x.tabulate(0, 0);
        Check.due("tabulate", "2 at 0", Desk.fault(x));
        x.gang(0, 1, 0);
        Check.due("gang", "0 at -1", Desk.fault(x));
        x.tabulate(1, 0);
        Check.due("tabulate", "0 at -1", Desk.fault(x));
    }

    private static void otherCallsLeaveIt() {
        CardOffice x = Desk.officeWith(0, "A1", "B1");
        x.multiply(0, 0, 1, 2);
        Check.dueThrow("multiply", Check.ARGUMENT, () -> x.multiply(8, 0, 1, 2));
        Check.dueThrow("reproduce", Check.ARGUMENT, () -> x.reproduce(0, 1, 1));
        Check.dueThrow("gang", Check.ARGUMENT, () -> x.gang(0, 0, 16));
        Check.dueThrow("tabulate", Check.ARGUMENT, () -> x.tabulate(4, 0));
        x.sort(0, 0, 1);
        x.pass(0, 0, false);
        x.merge(0, 1, 0, 0);
        x.match(0, 1, 2, 0, 0);
        x.cut(0, 2, 1);
        x.strip(0);
        x.tear();
        Check.due("the fault stays", "1 at 0", Desk.fault(x));
        x.multiply(0, 0, 1, 2);
        Check.due("an empty deck", "0 at -1", Desk.fault(x));
    }

    private static void wrongWhich() {
        CardOffice x = Desk.officeWith(0, "A1");
        x.multiply(0, 0, 1, 2);
        for (int which : new int[] {-1, 2, 3, Integer.MIN_VALUE, Integer.MAX_VALUE}) {
            Check.due("which " + which, CardOffice.NONE, x.fault(which));
        }
    }
}
