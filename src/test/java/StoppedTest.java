/**
 * Terms: 'While the machine is stopped, restart(), writes() and count() work as ever; the other calls do
 * nothing, and answer STOPPED where codes are named, else 0 or false.'
 */
public final class StoppedTest {
    public static void main(String[] args) {
        Check check = new Check();
        readingsBefore(check);
        codesWhileStopped(check);
        zerosWhileStopped(check);
        worksAsEver(check);
        allIsThereAfterRestart(check);
        stoppedByEachCall(check);
        check.end();
    }

    /** No reading of this bank is 0. */
    private static void makeRich(DayEndBank bank) {
        bank.open(1, 1, 200, 1000);
        bank.open(1, 2, 0, 1000);
        bank.pay(-1, 0, 3600);
        bank.hold(0, 300);
        bank.order(1, 0, 1, 3);
        bank.run(31);
        bank.run(3);
    }

    private static void makeRichAndStop(DayEndBank bank) {
        makeRich(bank);
        Machine.stop(bank);
    }

    private static void readingsBefore(Check check) {
        DayEndBank bank = new DayEndBank();
        makeRich(bank);
        check.due("balance(0)", bank.balance(0), 3631);
        check.due("available(0)", bank.available(0), 3531);
        check.due("accrued(0)", bank.accrued(0), 3L * 3631 * 1000);
        check.due("mark(0)", bank.mark(0), 33);
        check.due("ledger(1, 0)", bank.ledger(1, 0), 3600);
        check.due("ledger(1, 1)", bank.ledger(1, 1), 31);
        check.due("ledger(1, 2)", bank.ledger(1, 2), 3631);
        check.due("missed(0)", bank.missed(0), 2);
        check.due("today()", bank.today(), 34);
        check.due("lines() is not 0", bank.lines() > 0, true);
    }

    private static void codesWhileStopped(Check check) {
        Twins stopped = new Twins(check, StoppedTest::makeRichAndStop);
        stopped.refused("open", bank -> bank.open(0, 0, 0, 0), DayEndBank.STOPPED);
        stopped.refused("pay", bank -> bank.pay(-1, 0, 1), DayEndBank.STOPPED);
        stopped.refused("hold", bank -> bank.hold(0, 1), DayEndBank.STOPPED);
        stopped.refused("release", bank -> bank.release(0), DayEndBank.STOPPED);
        stopped.refused("settle", bank -> bank.settle(0, 1, 1), DayEndBank.STOPPED);
        stopped.refused("order", bank -> bank.order(0, 1, 1, 1), DayEndBank.STOPPED);
        stopped.refused("rest", bank -> bank.rest(65), DayEndBank.STOPPED);
        stopped.refused("run", bank -> bank.run(1), DayEndBank.STOPPED);
    }

    private static void zerosWhileStopped(Check check) {
        Twins stopped = new Twins(check, StoppedTest::makeRichAndStop);
        stopped.refused("fuse", bank -> bank.fuse(1) ? 1 : 0, 0);
        stopped.refused("balance", bank -> bank.balance(0), 0);
        stopped.refused("available", bank -> bank.available(0), 0);
        stopped.refused("accrued", bank -> bank.accrued(0), 0);
        stopped.refused("mark", bank -> bank.mark(0), 0);
        stopped.refused("cash", bank -> bank.ledger(1, 0), 0);
        stopped.refused("interest", bank -> bank.ledger(1, 1), 0);
        stopped.refused("customers", bank -> bank.ledger(1, 2), 0);
        stopped.refused("missed", bank -> bank.missed(0), 0);
        stopped.refused("today", DayEndBank::today, 0);
        stopped.refused("lines", DayEndBank::lines, 0);
    }

    private static void worksAsEver(Check check) {
        DayEndBank running = new DayEndBank();
        makeRich(running);
        DayEndBank bank = new DayEndBank();
        makeRichAndStop(bank);
        check.due("writes()", bank.writes(), running.writes());
        check.due("count(2, 0, 30)", bank.count(2, 0, 30), 30);
        check.due("count(0, 0, 99999)", bank.count(0, 0, 99999), 99999);
        check.due("count(3, 0, 30)", bank.count(3, 0, 30), -1);
        check.due("count(0, 1, 0)", bank.count(0, 1, 0), -1);
        check.due("restart()", bank.restart() > 0, true);
        check.due("restart() again", bank.restart(), DayEndBank.BAD);
    }

    private static void allIsThereAfterRestart(Check check) {
        DayEndBank running = new DayEndBank();
        makeRich(running);
        DayEndBank bank = new DayEndBank();
        makeRichAndStop(bank);
        bank.restart();
        check.due("balance(0)", bank.balance(0), 3631);
        check.due("available(0)", bank.available(0), 3531);
        check.due("accrued(0)", bank.accrued(0), 3L * 3631 * 1000);
        check.due("mark(0)", bank.mark(0), 33);
        check.due("ledger(1, 1)", bank.ledger(1, 1), 31);
        check.due("missed(0)", bank.missed(0), 2);
        check.due("today()", bank.today(), 34);
        check.due("lines()", bank.lines(), running.lines());
        check.due("run(1)", bank.run(1), 1);
    }

    /** STOPPED: 'The machine is stopped, or stopped in this call.' */
    private static void stoppedByEachCall(Check check) {
        isStoppedBy(check, "open", bank -> bank.open(0, 0, 0, 0));
        isStoppedBy(check, "pay", bank -> bank.pay(-1, 0, 1));
        isStoppedBy(check, "hold", bank -> bank.hold(0, 1));
        isStoppedBy(check, "release", bank -> bank.release(0));
        isStoppedBy(check, "settle", bank -> bank.settle(0, 1, 1));
        isStoppedBy(check, "order", bank -> bank.order(0, 1, 1, 1));
        isStoppedBy(check, "rest", bank -> bank.rest(65));
        isStoppedBy(check, "run", bank -> bank.run(1));
    }

    private static void isStoppedBy(Check check, String name, Twins.Call call) {
        DayEndBank bank = new DayEndBank();
        makeRich(bank);
        bank.fuse(0);
        check.due(name, call.answer(bank), DayEndBank.STOPPED);
        check.due("today() after " + name, bank.today(), 0);
        check.due("run(1) after " + name, bank.run(1), DayEndBank.STOPPED);
        check.due("fuse(-1) after " + name, bank.fuse(-1), false);
        check.due("restart() after " + name, bank.restart() >= 0, true);
        check.due("today() after restart", bank.today(), 34);
    }
}
