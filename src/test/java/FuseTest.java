/** Promises 10 and 11: fuse and restart. */
public final class FuseTest {
    public static void main(String[] args) {
        Check check = new Check();
        bothEndsOfTheRange(check);
        justOutsideTheRange(check);
        inPlaceOfAnother(check);
        takenOut(check);
        nothingWhileStopped(check);
        alsoWhileADayEndIsOpen(check);
        stopsAtTheWriteAfterThose(check);
        fiveHundredWrites(check);
        onlyWritesBurnIt(check);
        restartOfARunningMachine(check);
        restartWithoutAFuse(check);
        restartCountsTransactions(check);
        stoppedInTheCheckpoint(check);
        check.end();
    }

    private static void makeOne(DayEndBank bank) {
        bank.open(0, 0, 100, 100);
        bank.pay(-1, 0, 50);
    }

    private static void makeOneAndLeaveOpen(DayEndBank bank) {
        makeOne(bank);
        Machine.leaveDayEndOpen(bank);
    }

    private static void makeOneAndStop(DayEndBank bank) {
        makeOne(bank);
        Machine.stop(bank);
    }

    private static void bothEndsOfTheRange(Check check) {
        DayEndBank bank = new DayEndBank();
        check.due("fuse(-1)", bank.fuse(-1), true);
        check.due("fuse(0)", bank.fuse(0), true);
        check.due("fuse(1)", bank.fuse(1), true);
        check.due("fuse(499)", bank.fuse(499), true);
        check.due("fuse(500)", bank.fuse(500), true);
        check.due("nothing is written for it", bank.writes(), 0);
        check.due("nor does it stop anything", bank.today(), 0);
        check.due("restart()", bank.restart(), DayEndBank.BAD);
    }

    /** 'false when .. n is not -1 .. 500' */
    private static void justOutsideTheRange(Check check) {
        Twins one = new Twins(check, FuseTest::makeOne);
        int[] wrongNumbers = {-2, 501, Integer.MIN_VALUE, Integer.MAX_VALUE};
        for (int wrong : wrongNumbers) {
            one.refused("fuse(" + wrong + ")", bank -> bank.fuse(wrong) ? 1 : 0, 0);
        }
        DayEndBank bank = new DayEndBank();
        bank.fuse(1);
        check.due("fuse(501)", bank.fuse(501), false);
        check.due("fuse(-2)", bank.fuse(-2), false);
        check.due("the fuse of 1 is in yet", bank.open(0, 0, 0, 0), DayEndBank.STOPPED);
        check.due("writes()", bank.writes(), 1);
    }

    /** 'Puts in a fuse of n in place of the one that is there' */
    private static void inPlaceOfAnother(Check check) {
        DayEndBank bank = new DayEndBank();
        makeOne(bank);
        bank.fuse(3);
        check.due("two of three", bank.pay(-1, 0, 1), 0);
        bank.fuse(3);
        check.due("two of the new three", bank.pay(-1, 0, 1), 0);
        check.due("the third, then stop", bank.pay(-1, 0, 1), DayEndBank.STOPPED);
        bank.restart();
        bank.fuse(100);
        bank.fuse(0);
        check.due("a smaller one", bank.pay(-1, 0, 1), DayEndBank.STOPPED);
        bank.restart();
        bank.fuse(0);
        bank.fuse(4);
        check.due("a greater one", bank.pay(-1, 0, 1), 0);
        check.due("to its end", bank.pay(-1, 0, 1), 0);
        check.due("and no more", bank.pay(-1, 0, 1), DayEndBank.STOPPED);
    }

    /** 'or, for -1, takes it out' */
    private static void takenOut(Check check) {
        DayEndBank bank = new DayEndBank();
        makeOne(bank);
        bank.fuse(0);
        check.due("fuse(-1)", bank.fuse(-1), true);
        for (int i = 0; i < 10; i++) {
            check.due("run(31)", bank.run(31), 31);
        }
        check.due("more writes than any fuse has", bank.writes() > 501, true);
        check.due("fuse(-1) without one", bank.fuse(-1), true);
        check.due("run(31)", bank.run(31), 31);
    }

    /** 'false when the machine is stopped' */
    private static void nothingWhileStopped(Check check) {
        Twins stopped = new Twins(check, FuseTest::makeOneAndStop);
        int[] numbers = {-1, 0, 3, 500};
        for (int n : numbers) {
            stopped.refused("fuse(" + n + ")", bank -> bank.fuse(n) ? 1 : 0, 0);
        }
        DayEndBank bank = new DayEndBank();
        makeOneAndStop(bank);
        bank.fuse(0);
        bank.restart();
        check.due("no fuse was put in", bank.run(31), 31);
    }

    private static void alsoWhileADayEndIsOpen(Check check) {
        DayEndBank bank = new DayEndBank();
        makeOneAndLeaveOpen(bank);
        check.due("fuse(2)", bank.fuse(2), true);
        check.due("the step and no close", bank.run(1), DayEndBank.STOPPED);
        bank.restart();
        check.due("fuse(0)", bank.fuse(0), true);
        check.due("fuse(-1)", bank.fuse(-1), true);
        check.due("run(1)", bank.run(1), 1);
    }

    /** 'With a FUSE of n, n more writes can be made; at the write after those the machine STOPS' */
    private static void stopsAtTheWriteAfterThose(Check check) {
        for (int n = 0; n <= 10; n++) {
            DayEndBank bank = new DayEndBank();
            bank.open(0, 0, 0, 0);
            bank.fuse(n);
            for (int i = 0; i < n / 2; i++) {
                check.due("pay number " + i + " with fuse " + n, bank.pay(-1, 0, 1), 0);
            }
            check.due("it is not stopped before that write", bank.balance(0), n / 2);
            check.due("lines()", bank.lines(), 2 + n / 2 * 2);
            check.due("the next one", bank.pay(-1, 0, 1), DayEndBank.STOPPED);
            check.due("that write is not made", bank.writes(), 2 + n);
            check.due("all the others stay", bank.restart(), 1 + n / 2);
            check.due("balance(0)", bank.balance(0), n / 2);
            check.due("nor any line in the log", bank.lines(), 2 + n / 2 * 2);
        }
    }

    /** Twelve day ends and a checkpoint of no account are 25 writes. */
    private static void fiveHundredWrites(Check check) {
        DayEndBank bank = new DayEndBank();
        bank.fuse(500);
        for (int i = 0; i < 7; i++) {
            check.due("run(31)", bank.run(31), 31);
        }
        check.due("run(23)", bank.run(23), 23);
        check.due("240 day ends and 19 checkpoints", bank.writes(), 499);
        check.due("today()", bank.today(), 240);
        check.due("one checkpoint, and no begin", bank.run(1), DayEndBank.STOPPED);
        check.due("writes()", bank.writes(), 500);
        check.due("restart() with an empty log", bank.restart(), 0);
        check.due("no day end is open", bank.open(0, 0, 0, 0), 0);
    }

    private static void onlyWritesBurnIt(Check check) {
        DayEndBank bank = new DayEndBank();
        makeOne(bank);
        bank.fuse(2);
        check.due("a code", bank.pay(0, 0, 1), DayEndBank.BAD);
        check.due("another code", bank.pay(0, -1, 1000), DayEndBank.POOR);
        check.due("a reading", bank.balance(0), 50);
        check.due("a count", bank.count(0, 0, 1), 1);
        check.due("two writes are left", bank.pay(0, -1, 1), 0);
        check.due("none is left", bank.balance(0), 49);
        check.due("a code needs none", bank.pay(0, -1, 1000), DayEndBank.POOR);
        check.due("a write", bank.pay(0, -1, 1), DayEndBank.STOPPED);
    }

    /** 'BAD when it is not stopped' */
    private static void restartOfARunningMachine(Check check) {
        new Twins(check, bank -> { }).refused("restart()", DayEndBank::restart, DayEndBank.BAD);
        new Twins(check, FuseTest::makeOne).refused("restart()", DayEndBank::restart, DayEndBank.BAD);
        Twins open = new Twins(check, FuseTest::makeOneAndLeaveOpen);
        open.refused("restart() with an open day end", DayEndBank::restart, DayEndBank.BAD);
        DayEndBank bank = new DayEndBank();
        makeOneAndStop(bank);
        check.due("restart()", bank.restart(), 2);
        check.due("restart() again", bank.restart(), DayEndBank.BAD);
    }

    /** 'Starts the stopped machine again without a fuse' */
    private static void restartWithoutAFuse(Check check) {
        DayEndBank bank = new DayEndBank();
        makeOne(bank);
        bank.fuse(1);
        check.due("pay", bank.pay(-1, 0, 1), DayEndBank.STOPPED);
        check.due("restart()", bank.restart(), 2);
        check.due("pay again", bank.pay(-1, 0, 1), 0);
        for (int i = 0; i < 10; i++) {
            check.due("run(31)", bank.run(31), 31);
        }
        check.due("more writes than any fuse has", bank.writes() > 501, true);
    }

    /** 'the number of transactions in the log' */
    private static void restartCountsTransactions(Check check) {
        DayEndBank bank = new DayEndBank();
        Machine.stop(bank);
        check.due("none in an empty log", bank.restart(), 0);
        bank.open(0, 0, 0, 0);
        bank.open(0, 0, 0, 0);
        bank.pay(-1, 0, 50);
        bank.pay(0, 1, 10);
        bank.hold(0, 5);
        bank.settle(0, 1, 5);
        bank.rest(37);
        bank.order(0, 1, 1, 1);
        check.due("lines()", bank.lines(), 2 + 2 + 2 + 3 + 2 + 3 + 1 + 2);
        bank.fuse(3);
        check.due("begin, a step, and no more", bank.run(1), DayEndBank.STOPPED);
        check.due("eight calls, begin and step", bank.restart(), 10);
        bank.fuse(1);
        bank.run(1);
        check.due("nothing of the step that was begun", bank.restart(), 10);
        check.due("lines()", bank.lines(), 20);
        check.due("writes()", bank.writes(), 21);
        check.due("the step and the close", bank.run(1), 1);
        Machine.stop(bank);
        check.due("twelve", bank.restart(), 12);
    }

    /** The log is full with 24 lines of 2 accounts: a checkpoint has 3 writes. */
    private static void stoppedInTheCheckpoint(Check check) {
        for (int fuse = 0; fuse <= 4; fuse++) {
            DayEndBank bank = new DayEndBank();
            bank.open(0, 0, 0, 0);
            bank.open(0, 0, 0, 0);
            for (int i = 0; i < 10; i++) {
                bank.pay(-1, 0, 100);
            }
            check.due("the log is full", bank.lines(), 24);
            bank.fuse(fuse);
            check.due("pay with fuse " + fuse, bank.pay(-1, 1, 7), DayEndBank.STOPPED);
            check.due("writes()", bank.writes(), 24 + fuse);
            check.due("restart() after fuse " + fuse, bank.restart(), fuse < 3 ? 12 : 0);
            check.due("lines() after fuse " + fuse, bank.lines(), fuse < 3 ? 24 : 0);
            check.due("balance(0)", bank.balance(0), 1000);
            check.due("balance(1)", bank.balance(1), 0);
            check.due("pay again", bank.pay(-1, 1, 7), 0);
            check.due("a whole checkpoint, or none", bank.writes(), 24 + fuse + (fuse < 3 ? 5 : 2));
            check.due("lines()", bank.lines(), 2);
        }
    }
}
