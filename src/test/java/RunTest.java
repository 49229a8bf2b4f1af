/** Promise 9: run. What a step does is tested in StepTest and InterestTest. */
public final class RunTest {
    public static void main(String[] args) {
        Check check = new Check();
        bothEndsOfTheRange(check);
        justOutsideTheRange(check);
        neverBusy(check);
        openOneIsTheFirst(check);
        notBegunTwice(check);
        openAfterTheBeginAlone(check);
        stoppedAtEachWrite(check);
        stoppedAtEachWriteWithACheckpoint(check);
        stoppedBetweenDayEnds(check);
        stoppedTwice(check);
        goneOnAfterAnyStop(check);
        check.end();
    }

    private static void makeTwo(DayEndBank bank) {
        bank.open(0, 0, 100, 500);
        bank.open(0, 2, 0, 900);
        bank.pay(-1, 0, 5000);
        bank.order(0, 1, 300, 1);
    }

    private static void makeTwoAndLeaveOpen(DayEndBank bank) {
        makeTwo(bank);
        Machine.leaveDayEndOpen(bank);
    }

    /** 'Makes n day ends, one after the other .. Answers n' */
    private static void bothEndsOfTheRange(Check check) {
        DayEndBank bank = new DayEndBank();
        check.due("run(1)", bank.run(1), 1);
        check.due("today()", bank.today(), 1);
        check.due("run(31)", bank.run(31), 31);
        check.due("today()", bank.today(), 32);
        check.due("run(2)", bank.run(2), 2);
        check.due("run(30)", bank.run(30), 30);
        check.due("today()", bank.today(), 64);
    }

    /** 'BAD when n is not 1 .. 31' */
    private static void justOutsideTheRange(Check check) {
        Twins two = new Twins(check, RunTest::makeTwo);
        Twins open = new Twins(check, RunTest::makeTwoAndLeaveOpen);
        int[] wrongNumbers = {0, -1, 32, Integer.MIN_VALUE, Integer.MAX_VALUE};
        for (int wrong : wrongNumbers) {
            two.refused("run(" + wrong + ")", bank -> bank.run(wrong), DayEndBank.BAD);
            open.refused("run(" + wrong + ") with an open one", bank -> bank.run(wrong), DayEndBank.BAD);
        }
    }

    /** '(It is never BUSY.)' */
    private static void neverBusy(Check check) {
        DayEndBank bank = new DayEndBank();
        makeTwoAndLeaveOpen(bank);
        check.due("pay is BUSY", bank.pay(-1, 0, 1), DayEndBank.BUSY);
        check.due("run(1) is not", bank.run(1), 1);
        check.due("today()", bank.today(), 1);
        check.due("nor is pay now", bank.pay(-1, 0, 1), 0);
    }

    /** 'one that is open is gone on with and is the first of them' */
    private static void openOneIsTheFirst(Check check) {
        int[] numbers = {1, 2, 31};
        for (int n : numbers) {
            DayEndBank bank = new DayEndBank();
            makeTwoAndLeaveOpen(bank);
            check.due("run(" + n + ")", bank.run(n), n);
            check.due("today() after run(" + n + ")", bank.today(), n);
            check.due("mark(1) after run(" + n + ")", bank.mark(1), n - 1);
        }
    }

    private static void notBegunTwice(Check check) {
        DayEndBank bank = new DayEndBank();
        makeTwo(bank);
        int writes = bank.writes();
        bank.fuse(3);
        check.due("begin and the first step", bank.run(1), DayEndBank.STOPPED);
        bank.restart();
        check.due("the first account has had its step", bank.mark(0), 0);
        check.due("the second has not", bank.mark(1), -1);
        long accrual = bank.accrued(0);
        check.due("run(1)", bank.run(1), 1);
        check.due("only the second step and the close were left", bank.writes(), writes + 3 + 3);
        check.due("no step was made twice", bank.accrued(0), accrual);
    }

    /** 'A day end that was begun and is not closed is OPEN.' */
    private static void openAfterTheBeginAlone(Check check) {
        DayEndBank none = new DayEndBank();
        none.fuse(1);
        check.due("begun without accounts", none.run(1), DayEndBank.STOPPED);
        check.due("its begin is in the log", none.restart(), 1);
        check.due("it is open", none.open(0, 0, 0, 0), DayEndBank.BUSY);
        check.due("today()", none.today(), 0);
        check.due("it is closed", none.run(1), 1);
        check.due("by one write", none.writes(), 2);
        check.due("today()", none.today(), 1);
        check.due("no more", none.open(0, 0, 0, 0), 0);
    }

    /**
     * At date 2 account 0 pays two orders and misses one. The log has the lines of one payment.
     * The day end then writes 1 for the begin, 4, 2 and 2 for the steps, and 1 for the close.
     */
    private static DayEndBank bankBeforeTheDayEnd() {
        DayEndBank bank = new DayEndBank();
        bank.run(2);
        for (int i = 0; i < 3; i++) {
            bank.open(0, 0, 0, 100);
        }
        bank.order(0, 1, 30, 1);
        bank.order(0, 1, 500, 1);
        bank.order(0, 2, 20, 1);
        for (int i = 0; i < 5; i++) {
            bank.pay(-1, 0, 20);
        }
        return bank;
    }

    private static void stoppedAtEachWrite(Check check) {
        check.due("one payment in the log", bankBeforeTheDayEnd().lines(), 2);
        int[][] transactionsLinesAndSteps = {
            {1, 2, 0}, {2, 3, 0}, {2, 3, 0}, {2, 3, 0}, {2, 3, 0}, {3, 7, 1}, {3, 7, 1},
            {4, 9, 2}, {4, 9, 2}, {5, 11, 3}};
        for (int fuse = 0; fuse < 10; fuse++) {
            DayEndBank bank = bankBeforeTheDayEnd();
            int writes = bank.writes();
            int[] row = transactionsLinesAndSteps[fuse];
            bank.fuse(fuse);
            isStopped(check, bank, fuse, row, fuse > 0);
            check.due("run(1) after fuse " + fuse, bank.run(1), 1);
            check.due("writes() after all", bank.writes(), writes + fuse + 12 - row[1]);
            isDone(check, bank);
        }
        DayEndBank bank = bankBeforeTheDayEnd();
        bank.fuse(10);
        check.due("ten writes are enough", bank.run(1), 1);
        isDone(check, bank);
    }

    /** Nine payments more leave 20 lines of two accounts: the first step makes a checkpoint of 3 writes. */
    private static void stoppedAtEachWriteWithACheckpoint(Check check) {
        int[][] transactionsLinesAndSteps = {
            {10, 20, 0}, {11, 21, 0}, {11, 21, 0}, {11, 21, 0}, {0, 0, 0}, {0, 0, 0}, {0, 0, 0},
            {0, 0, 0}, {1, 4, 1}, {1, 4, 1}, {2, 6, 2}, {2, 6, 2}, {3, 8, 3}};
        int[] writesLeft = {13, 12, 12, 12, 9, 9, 9, 9, 5, 5, 3, 3, 1};
        for (int fuse = 0; fuse < 13; fuse++) {
            DayEndBank bank = bankBeforeTheDayEnd();
            payNineTimes(bank);
            int writes = bank.writes();
            bank.fuse(fuse);
            isStopped(check, bank, fuse, transactionsLinesAndSteps[fuse], fuse > 0);
            check.due("run(1) after fuse " + fuse, bank.run(1), 1);
            check.due("writes() after all", bank.writes(), writes + fuse + writesLeft[fuse]);
            check.due("lines() after all", bank.lines(), 9);
        }
        DayEndBank bank = bankBeforeTheDayEnd();
        payNineTimes(bank);
        bank.fuse(13);
        check.due("thirteen writes are enough", bank.run(1), 1);
        check.due("lines()", bank.lines(), 9);
    }

    private static void payNineTimes(DayEndBank bank) {
        for (int i = 0; i < 9; i++) {
            bank.pay(-1, 1, 1);
        }
    }

    /** A day end of these banks with a fuse that is too short, and what stays of it. */
    private static void isStopped(Check check, DayEndBank bank, int fuse, int[] row, boolean isOpen) {
        String after = " after fuse " + fuse;
        long before = bank.balance(1);
        int steps = row[2];
        check.due("run(1) with fuse " + fuse, bank.run(1), DayEndBank.STOPPED);
        check.due("restart()" + after, bank.restart(), row[0]);
        check.due("lines()" + after, bank.lines(), row[1]);
        for (int i = 0; i < 3; i++) {
            check.due("mark(" + i + ")" + after, bank.mark(i), i < steps ? 2 : 1);
        }
        check.due("balance(0)" + after, bank.balance(0), steps > 0 ? 50 : 100);
        check.due("balance(1)" + after, bank.balance(1), before + (steps > 0 ? 30 : 0));
        check.due("accrued(0)" + after, bank.accrued(0), steps > 0 ? 5000 : 0);
        check.due("accrued(1)" + after, bank.accrued(1), steps > 1 ? 100 * (before + 30) : 0);
        check.due("missed(1)" + after, bank.missed(1), steps > 0 ? 1 : 0);
        check.due("today()" + after, bank.today(), 2);
        check.due("BUSY or not" + after, bank.release(0), isOpen ? DayEndBank.BUSY : DayEndBank.BAD);
    }

    private static void isDone(Check check, DayEndBank bank) {
        check.due("today()", bank.today(), 3);
        check.due("lines()", bank.lines(), 12);
        check.due("balance(0)", bank.balance(0), 50);
        check.due("balance(1)", bank.balance(1), 30);
        check.due("balance(2)", bank.balance(2), 20);
        check.due("accrued(0)", bank.accrued(0), 5000);
        check.due("accrued(2)", bank.accrued(2), 2000);
        check.due("missed(0)", bank.missed(0), 0);
        check.due("missed(1)", bank.missed(1), 1);
        check.due("mark(2)", bank.mark(2), 2);
        check.due("it is not open", bank.release(0), DayEndBank.BAD);
    }

    /** 'STOPPED when the machine is stopped or stops', and the day ends that were closed stay. */
    private static void stoppedBetweenDayEnds(Check check) {
        DayEndBank bank = new DayEndBank();
        bank.fuse(6);
        check.due("three day ends and no more", bank.run(4), DayEndBank.STOPPED);
        check.due("run while stopped", bank.run(1), DayEndBank.STOPPED);
        check.due("six transactions", bank.restart(), 6);
        check.due("today()", bank.today(), 3);
        check.due("none is open", bank.rest(37), 0);
        bank.fuse(2);
        check.due("one day end", bank.run(1), 1);
        check.due("it is not stopped yet", bank.today(), 4);
        check.due("run(1)", bank.run(1), DayEndBank.STOPPED);
    }

    private static void stoppedTwice(Check check) {
        DayEndBank bank = bankBeforeTheDayEnd();
        bank.fuse(3);
        check.due("stops in the first step", bank.run(1), DayEndBank.STOPPED);
        bank.restart();
        bank.fuse(5);
        check.due("stops in the second step", bank.run(31), DayEndBank.STOPPED);
        check.due("restart()", bank.restart(), 3);
        bank.fuse(0);
        check.due("stops at once", bank.run(1), DayEndBank.STOPPED);
        check.due("restart()", bank.restart(), 3);
        check.due("run(1)", bank.run(1), 1);
        isDone(check, bank);
    }

    /** Wherever the machine stops, the state after going on is that of a run without a stop. */
    private static void goneOnAfterAnyStop(Check check) {
        DayEndBank whole = bankWithOrders();
        whole.run(31);
        for (int fuse = 0; fuse <= 300; fuse++) {
            DayEndBank bank = bankWithOrders();
            bank.fuse(fuse);
            if (bank.run(31) == DayEndBank.STOPPED) {
                bank.restart();
                int left = 31 - bank.today();
                check.due("run(" + left + ") after fuse " + fuse, bank.run(left), left);
            }
            check.due("today() after fuse " + fuse, bank.today(), 31);
            for (int i = 0; i < 3; i++) {
                check.due("balance after fuse " + fuse, bank.balance(i), whole.balance(i));
                check.due("accrual after fuse " + fuse, bank.accrued(i), whole.accrued(i));
                check.due("mark after fuse " + fuse, bank.mark(i), 30);
                check.due("misses after fuse " + fuse, bank.missed(i), whole.missed(i));
            }
        }
    }

    private static DayEndBank bankWithOrders() {
        DayEndBank bank = new DayEndBank();
        for (int i = 0; i < 3; i++) {
            bank.open(0, i, 500, 900);
        }
        bank.pay(-1, 0, 100000);
        bank.order(0, 1, 5000, 10);
        bank.order(1, 2, 5000, 10);
        bank.order(2, 0, 700000, 20);
        bank.order(0, 2, 30, 31);
        bank.order(0, 1, 40, 31);
        return bank;
    }
}
