/** Promises 10 and 11: fuse and restart. */
public final class FuseTest {
    public static void main(String[] args) {
        Check check = new Check();
        answers(check);
        replacedAndTakenOut(check);
        justEnough(check);
        restartCountsTransactions(check);
        fuseInTheCheckpoint(check);
        check.end();
    }

    private static void answers(Check check) {
        DayEndBank bank = new DayEndBank();
        int[] wrongNumbers = {-2, 501, Integer.MIN_VALUE, Integer.MAX_VALUE};
        for (int wrong : wrongNumbers) {
            check.due("fuse(" + wrong + ")", bank.fuse(wrong), false);
        }
        check.due("no fuse was put in", bank.run(31), 31);
        check.due("fuse(-1) without one", bank.fuse(-1), true);
        check.due("fuse(500)", bank.fuse(500), true);
        check.due("fuse(0)", bank.fuse(0), true);
        check.due("no write, no stop", bank.today(), 31);
        check.due("a code writes nothing", bank.pay(-1, 0, 1), DayEndBank.BAD);
        check.due("a false changes nothing", bank.fuse(501), false);
        check.due("restart() while it runs", bank.restart(), DayEndBank.BAD);
        check.due("the fuse is in yet", bank.open(0, 0, 0, 0), DayEndBank.STOPPED);
        check.due("fuse while stopped", bank.fuse(5), false);
        check.due("taking it out while stopped", bank.fuse(-1), false);
        check.due("still stopped", bank.run(1), DayEndBank.STOPPED);
        bank.restart();
        check.due("without a fuse", bank.run(31), 31);
        check.due("restart() again", bank.restart(), DayEndBank.BAD);
    }

    private static void replacedAndTakenOut(Check check) {
        DayEndBank bank = new DayEndBank();
        bank.open(0, 0, 0, 0);
        bank.fuse(3);
        check.due("two of three", bank.pay(-1, 0, 1), 0);
        bank.fuse(3);
        check.due("two of the new three", bank.pay(-1, 0, 1), 0);
        check.due("the third, then stop", bank.pay(-1, 0, 1), DayEndBank.STOPPED);
        bank.restart();
        bank.fuse(1);
        bank.fuse(-1);
        check.due("taken out", bank.pay(-1, 0, 1), 0);
        bank.fuse(500);
        check.due("500 writes are more than 31 days", bank.run(31), 31);
        Machine.leaveDayEndOpen(bank);
        check.due("also while a day end is open", bank.fuse(0), true);
        check.due("run(1)", bank.run(1), DayEndBank.STOPPED);
    }

    private static void justEnough(Check check) {
        DayEndBank bank = new DayEndBank();
        bank.fuse(2);
        check.due("open uses both", bank.open(0, 0, 5, 0), 0);
        check.due("not stopped yet", bank.available(0), 5);
        check.due("lines()", bank.lines(), 2);
        check.due("the next write stops it", bank.hold(0, 1), DayEndBank.STOPPED);
        check.due("that write is not made", bank.writes(), 2);
        check.due("restart()", bank.restart(), 1);
        check.due("available(0)", bank.available(0), 5);
        DayEndBank longer = new DayEndBank();
        longer.fuse(500);
        for (int i = 0; i < 7; i++) {
            longer.run(31);
        }
        longer.run(23);
        check.due("240 day ends and 19 checkpoints", longer.writes(), 499);
        check.due("today()", longer.today(), 240);
        check.due("one checkpoint, and no begin", longer.run(1), DayEndBank.STOPPED);
        check.due("writes()", longer.writes(), 500);
        check.due("restart() with an empty log", longer.restart(), 0);
        check.due("no day end is open", longer.open(0, 0, 0, 0), 0);
    }

    private static void restartCountsTransactions(Check check) {
        DayEndBank bank = new DayEndBank();
        Machine.stop(bank);
        check.due("none in an empty log", bank.restart(), 0);
        bank.open(0, 0, 0, 0);
        bank.open(0, 0, 0, 0);
        bank.pay(-1, 0, 50);
        bank.pay(0, 1, 10);
        bank.hold(0, 5);
        bank.settle(0, 1, 5);
        bank.rest(37);
        bank.order(0, 1, 1, 1);
        check.due("lines()", bank.lines(), 2 + 2 + 2 + 3 + 2 + 3 + 1 + 2);
        bank.fuse(3);
        check.due("begin, a step, and no more", bank.run(1), DayEndBank.STOPPED);
        check.due("eight calls, begin and step", bank.restart(), 10);
        bank.fuse(1);
        bank.run(1);
        check.due("nothing of the step that was begun", bank.restart(), 10);
        check.due("lines()", bank.lines(), 20);
        check.due("writes()", bank.writes(), 21);
    }

    /** The log is full with 24 lines of 2 accounts: a checkpoint has 3 writes. */
    private static void fuseInTheCheckpoint(Check check) {
        for (int fuse = 0; fuse <= 4; fuse++) {
            DayEndBank bank = new DayEndBank();
            bank.open(0, 0, 0, 0);
            bank.open(0, 0, 0, 0);
            for (int i = 0; i < 10; i++) {
                bank.pay(-1, 0, 100);
            }
            check.due("the log is full", bank.lines(), 24);
            bank.fuse(fuse);
            check.due("pay with fuse " + fuse, bank.pay(-1, 1, 7), DayEndBank.STOPPED);
            check.due("writes()", bank.writes(), 24 + fuse);
            check.due("restart() after fuse " + fuse, bank.restart(), fuse < 3 ? 12 : 0);
            check.due("lines() after fuse " + fuse, bank.lines(), fuse < 3 ? 24 : 0);
            check.due("balance(0)", bank.balance(0), 1000);
            check.due("balance(1)", bank.balance(1), 0);
            check.due("pay again", bank.pay(-1, 1, 7), 0);
            check.due("a whole checkpoint, or none", bank.writes(), 24 + fuse + (fuse < 3 ? 5 : 2));
            check.due("lines()", bank.lines(), 2);
        }
    }
}
