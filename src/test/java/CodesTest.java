/**
 * Terms: 'CODES are tested in this order: STOPPED, BUSY (a day end is open), BAD (a number is not as it
 * must be), FULL, POOR (not enough is available).' Every call is made with a reason for each code that
 * it can answer: of the codes that are due at once the first must be answered.
 */
public final class CodesTest {
    private final Check check;

    private CodesTest(Check check) {
        this.check = check;
    }

    public static void main(String[] args) {
        Check check = new Check();
        CodesTest test = new CodesTest(check);
        test.badBeforeFull();
        test.badBeforePoor();
        test.fullBeforePoor();
        test.busyBeforeTheRest();
        test.stoppedBeforeTheRest();
        test.stoppedBeforeBusy();
        check.end();
    }

    private static void makeFullAndLeaveOpen(DayEndBank bank) {
        Machine.makeFull(bank);
        Machine.leaveDayEndOpen(bank);
    }

    private static void makeFullAndStop(DayEndBank bank) {
        Machine.makeFull(bank);
        Machine.stop(bank);
    }

    private static void makeFullAndStopInADayEnd(DayEndBank bank) {
        makeFullAndLeaveOpen(bank);
        Machine.stop(bank);
    }

    private static void makePoor(DayEndBank bank) {
        bank.open(0, 0, 0, 0);
        bank.open(0, 0, 0, 0);
        bank.open(1, 0, 0, 0);
    }

    private void badBeforeFull() {
        Twins full = new Twins(check, Machine::makeFull);
        full.refused("open of a currency", bank -> bank.open(3, 0, 0, 0), DayEndBank.BAD);
        full.refused("open of a basis", bank -> bank.open(0, 3, 0, 0), DayEndBank.BAD);
        full.refused("open with a limit", bank -> bank.open(0, 0, -1, 0), DayEndBank.BAD);
        full.refused("open with a rate", bank -> bank.open(0, 0, 0, 1001), DayEndBank.BAD);
        full.refused("hold on no account", bank -> bank.hold(6, 1), DayEndBank.BAD);
        full.refused("hold of an amount", bank -> bank.hold(0, 0), DayEndBank.BAD);
        full.refused("order from no account", bank -> bank.order(-1, 1, 1, 1), DayEndBank.BAD);
        full.refused("order to itself", bank -> bank.order(1, 1, 1, 1), DayEndBank.BAD);
        full.refused("order of two currencies", bank -> bank.order(0, 2, 1, 1), DayEndBank.BAD);
        full.refused("order of an amount", bank -> bank.order(0, 1, 1000001, 1), DayEndBank.BAD);
        full.refused("order of a day", bank -> bank.order(0, 1, 1, 32), DayEndBank.BAD);
        full.refused("rest at a date out of range", bank -> bank.rest(20001), DayEndBank.BAD);
        full.refused("rest at a rest day", bank -> bank.rest(37), DayEndBank.BAD);
        full.refused("rest in this month", bank -> bank.rest(30), DayEndBank.BAD);
    }

    private void badBeforePoor() {
        Twins poor = new Twins(check, CodesTest::makePoor);
        poor.refused("pay to no account", bank -> bank.pay(0, 3, 1), DayEndBank.BAD);
        poor.refused("pay to itself", bank -> bank.pay(0, 0, 1), DayEndBank.BAD);
        poor.refused("pay of two currencies", bank -> bank.pay(0, 2, 1), DayEndBank.BAD);
        poor.refused("pay of an amount", bank -> bank.pay(0, 1, 1000001), DayEndBank.BAD);
        poor.refused("pay of an amount to cash", bank -> bank.pay(0, -1, 1000001), DayEndBank.BAD);
        poor.refused("hold of an amount", bank -> bank.hold(0, 1000001), DayEndBank.BAD);
        poor.refused("pay", bank -> bank.pay(0, 1, 1), DayEndBank.POOR);
        poor.refused("hold", bank -> bank.hold(0, 1), DayEndBank.POOR);
    }

    private void fullBeforePoor() {
        Twins full = new Twins(check, Machine::makeFull);
        full.refused("hold of a poor account", bank -> bank.hold(0, 1), DayEndBank.FULL);
        full.refused("pay of the poor account", bank -> bank.pay(0, 1, 1), DayEndBank.POOR);
    }

    private void busyBeforeTheRest() {
        Twins open = new Twins(check, CodesTest::makeFullAndLeaveOpen);
        eachChange(open, DayEndBank.BUSY);
        open.refused("run(0)", bank -> bank.run(0), DayEndBank.BAD);
        open.refused("fuse(501)", bank -> bank.fuse(501) ? 1 : 0, 0);
    }

    private void stoppedBeforeTheRest() {
        Twins stopped = new Twins(check, CodesTest::makeFullAndStop);
        eachChange(stopped, DayEndBank.STOPPED);
        stopped.refused("run(0)", bank -> bank.run(0), DayEndBank.STOPPED);
        stopped.refused("run(32)", bank -> bank.run(32), DayEndBank.STOPPED);
    }

    private void stoppedBeforeBusy() {
        Twins stopped = new Twins(check, CodesTest::makeFullAndStopInADayEnd);
        eachChange(stopped, DayEndBank.STOPPED);
        stopped.refused("run(0)", bank -> bank.run(0), DayEndBank.STOPPED);
    }

    /** Each change, with a reason for BAD, for FULL, for POOR, and for none. */
    private void eachChange(Twins twins, int code) {
        twins.refused("open, BAD", bank -> bank.open(3, 0, 0, 0), code);
        twins.refused("open, FULL", bank -> bank.open(0, 0, 0, 0), code);
        twins.refused("pay, BAD", bank -> bank.pay(9, 0, 0), code);
        twins.refused("pay, POOR", bank -> bank.pay(0, 1, 1), code);
        twins.refused("pay", bank -> bank.pay(-1, 1, 1), code);
        twins.refused("hold, BAD", bank -> bank.hold(0, 0), code);
        twins.refused("hold, FULL", bank -> bank.hold(0, 1), code);
        twins.refused("release, BAD", bank -> bank.release(8), code);
        twins.refused("release", bank -> bank.release(0), code);
        twins.refused("settle, BAD", bank -> bank.settle(8, 1, 1), code);
        twins.refused("settle", bank -> bank.settle(0, 1, 1), code);
        twins.refused("order, BAD", bank -> bank.order(0, 1, 1, 32), code);
        twins.refused("order, FULL", bank -> bank.order(0, 1, 1, 3), code);
        twins.refused("rest, BAD", bank -> bank.rest(-1), code);
        twins.refused("rest, FULL", bank -> bank.rest(38), code);
    }
}
