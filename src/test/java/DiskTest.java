/** Promises 20 and 21: writes and lines, with the transactions, the log and the checkpoint of Terms. */
public final class DiskTest {
    public static void main(String[] args) {
        Check check = new Check();
        linesOfEachCall(check);
        nothingElseWrites(check);
        linesOfADayEnd(check);
        oneLineForEveryPaidOrder(check);
        largestStep(check);
        lastLineThatFits(check);
        oneLineTooMany(check);
        checkpointOfNoAccount(check);
        checkpointOfEachAccountOnce(check);
        accountsThatEachCallChanges(check);
        accountsThatAStepChanges(check);
        checkpointForgetsOlderTransactions(check);
        nothingOfBrokenTransactions(check);
        stoppedInTheMiddleOfATransaction(check);
        stoppedInTheMiddleOfACheckpoint(check);
        stoppedCheckpointIsMadeAgainAsAWhole(check);
        check.end();
    }

    private static void isDue(Check check, String call, DayEndBank bank, int lines, int writes) {
        check.due("lines() after " + call, bank.lines(), lines);
        check.due("writes() after " + call, bank.writes(), writes);
    }

    /** Each payment by cash has 2 lines. */
    private static void payByCash(DayEndBank bank, int account, int times) {
        for (int i = 0; i < times; i++) {
            bank.pay(-1, account, 10);
        }
    }

    /** 'one LINE into a log for each account that it changes, and then one line more, its END' */
    private static void linesOfEachCall(Check check) {
        DayEndBank bank = new DayEndBank();
        bank.open(0, 0, 0, 0);
        isDue(check, "open", bank, 2, 2);
        bank.open(0, 0, 0, 0);
        bank.pay(-1, 0, 100);
        isDue(check, "pay by cash", bank, 6, 6);
        bank.pay(0, 1, 10);
        isDue(check, "pay between accounts", bank, 9, 9);
        bank.pay(1, -1, 10);
        isDue(check, "pay to cash", bank, 11, 11);
        bank.hold(0, 5);
        isDue(check, "hold", bank, 13, 13);
        bank.settle(0, 1, 5);
        isDue(check, "settle to an account", bank, 16, 16);
        bank.hold(0, 5);
        bank.settle(0, -1, 5);
        isDue(check, "settle to cash", bank, 20, 20);
        bank.rest(37);
        isDue(check, "rest", bank, 21, 21);
        bank.order(0, 1, 5, 5);
        isDue(check, "order", bank, 23, 23);
        bank.hold(0, 5);
        isDue(check, "hold behind a checkpoint", bank, 2, 23 + 3 + 2);
        bank.release(0);
        isDue(check, "release", bank, 4, 30);
    }

    /** 'Nothing else writes.' */
    private static void nothingElseWrites(Check check) {
        DayEndBank bank = new DayEndBank();
        bank.open(0, 0, 0, 0);
        bank.open(0, 0, 0, 0);
        bank.pay(0, 1, 1000000);
        bank.pay(9, 9, 9);
        bank.hold(0, 1);
        bank.release(0);
        bank.settle(0, 1, 1);
        bank.order(0, 0, 1, 1);
        bank.rest(0);
        bank.run(0);
        isDue(check, "codes", bank, 4, 4);
        bank.fuse(9);
        bank.fuse(501);
        bank.restart();
        bank.balance(0);
        bank.ledger(0, 2);
        bank.count(0, 0, 5);
        isDue(check, "the other calls", bank, 4, 4);
        bank.fuse(0);
        bank.pay(-1, 0, 1);
        bank.restart();
        isDue(check, "a stop and restart", bank, 4, 4);
    }

    /** 'in a day end its begin, each step and its close' */
    private static void linesOfADayEnd(Check check) {
        for (int accounts = 0; accounts <= 6; accounts++) {
            DayEndBank bank = new DayEndBank();
            for (int i = 0; i < accounts; i++) {
                bank.open(0, 0, 0, 0);
            }
            int before = 2 * accounts;
            int more = 2 * accounts + 2;
            bank.run(1);
            boolean fits = before + more <= 24;
            check.due("a day end of " + accounts, bank.writes(), before + more + (fits ? 0 : 7));
        }
    }

    /** 'with one line for every order that it pays', also where two pay the same account */
    private static void oneLineForEveryPaidOrder(Check check) {
        DayEndBank bank = new DayEndBank();
        bank.run(2);
        for (int i = 0; i < 3; i++) {
            bank.open(0, 0, 0, 0);
        }
        bank.pay(-1, 0, 10);
        bank.order(0, 1, 4, 1);
        bank.order(0, 1, 40, 1);
        isDue(check, "an order that will be paid and one that will not", bank, 16, 16);
        bank.run(1);
        check.due("missed(1)", bank.missed(1), 1);
        isDue(check, "begin, 3, 2, 2, a checkpoint and close", bank, 1, 24 + 4 + 1);
        DayEndBank same = new DayEndBank();
        same.run(2);
        same.open(0, 0, 0, 0);
        same.open(0, 0, 0, 0);
        same.pay(-1, 0, 10);
        same.order(0, 1, 4, 1);
        same.order(0, 1, 5, 1);
        isDue(check, "two orders to one account", same, 14, 14);
        same.run(1);
        isDue(check, "begin, 4, 2 and close", same, 22, 22);
    }

    /** Six orders, the account itself and the end are 8 lines: they fit behind 16, not behind 17. */
    private static void largestStep(Check check) {
        DayEndBank fits = bankBeforeSixOrders();
        payByCash(fits, 0, 7);
        fits.rest(65);
        isDue(check, "payments and a rest day", fits, 15, 24 + 3 + 15);
        fits.run(1);
        check.due("six were paid", fits.balance(1), 6);
        isDue(check, "begin, 8, a checkpoint of two, 2 and close", fits, 3, 42 + 1 + 8 + 3 + 3);
        DayEndBank tooMany = bankBeforeSixOrders();
        payByCash(tooMany, 0, 8);
        isDue(check, "payments", tooMany, 16, 24 + 3 + 16);
        tooMany.run(1);
        check.due("six were paid", tooMany.balance(1), 6);
        isDue(check, "begin, a checkpoint of one, 8, 2 and close", tooMany, 11, 43 + 1 + 2 + 11);
    }

    /** The log is full, and today is date 2, at which the six are due. */
    private static DayEndBank bankBeforeSixOrders() {
        DayEndBank bank = new DayEndBank();
        bank.run(2);
        bank.open(0, 0, 0, 0);
        bank.open(0, 0, 0, 0);
        for (int i = 0; i < 6; i++) {
            bank.order(0, 1, 1, 1);
        }
        bank.rest(37);
        bank.rest(38);
        payByCash(bank, 0, 1);
        return bank;
    }

    /** 'The log has room for 24 lines.' */
    private static void lastLineThatFits(Check check) {
        DayEndBank one = bankWithLines(23);
        one.rest(65);
        isDue(check, "one line at 23", one, 24, 24);
        DayEndBank two = bankWithLines(22);
        two.pay(-1, 0, 1);
        isDue(check, "two lines at 22", two, 24, 24);
        DayEndBank three = bankWithLines(21);
        three.pay(0, 1, 1);
        isDue(check, "three lines at 21", three, 24, 24);
    }

    /** 'If the lines of a transaction, its end included, do not fit .. a CHECKPOINT is made first' */
    private static void oneLineTooMany(Check check) {
        DayEndBank one = bankWithLines(24);
        one.rest(65);
        isDue(check, "one line at 24", one, 1, 24 + 3 + 1);
        DayEndBank two = bankWithLines(23);
        two.pay(-1, 0, 1);
        isDue(check, "two lines at 23", two, 2, 23 + 3 + 2);
        DayEndBank three = bankWithLines(22);
        three.pay(0, 1, 1);
        isDue(check, "three lines at 22", three, 3, 22 + 3 + 3);
        DayEndBank far = bankWithLines(23);
        far.pay(0, 1, 1);
        isDue(check, "three lines at 23", far, 3, 23 + 3 + 3);
        DayEndBank refused = bankWithLines(24);
        refused.pay(0, 0, 1);
        isDue(check, "a code at 24", refused, 24, 24);
    }

    /** Two accounts, and the log filled up to a number of lines from 5 on. */
    private static DayEndBank bankWithLines(int lines) {
        DayEndBank bank = new DayEndBank();
        bank.open(0, 0, 0, 0);
        bank.open(0, 0, 0, 0);
        if (lines % 2 == 1) {
            bank.rest(37);
        }
        payByCash(bank, 0, (lines - 4) / 2);
        return bank;
    }

    private static void checkpointOfNoAccount(Check check) {
        DayEndBank bank = new DayEndBank();
        bank.run(12);
        isDue(check, "24 lines of none", bank, 24, 24);
        bank.run(1);
        isDue(check, "a checkpoint of none", bank, 2, 24 + 1 + 2);
    }

    /** 'one write for each account that was changed by transactions in the log' */
    private static void checkpointOfEachAccountOnce(Check check) {
        DayEndBank bank = new DayEndBank();
        for (int i = 0; i < 6; i++) {
            bank.open(0, 0, 1000, 0);
        }
        for (int i = 0; i < 4; i++) {
            bank.pay(0, 1, 1);
        }
        isDue(check, "24 lines of six accounts", bank, 24, 24);
        bank.pay(4, 5, 1);
        isDue(check, "a checkpoint of six", bank, 3, 24 + 7 + 3);
    }

    /**
     * 'open changes the new account; pay and settle the accounts that pay and are paid; hold and release
     * the hold's account; order the paying account; rest, begin and close change none'
     */
    private static void accountsThatEachCallChanges(Check check) {
        changes(check, "open", bank -> bank.open(0, 0, 0, 0), 1);
        changes(check, "pay by cash", bank -> bank.pay(-1, 1, 1), 1);
        changes(check, "pay to cash", bank -> bank.pay(1, -1, 1), 1);
        changes(check, "pay", bank -> bank.pay(1, 2, 1), 2);
        changes(check, "hold", bank -> bank.hold(2, 1), 1);
        changes(check, "release", bank -> bank.release(0), 1);
        changes(check, "settle to cash", bank -> bank.settle(0, -1, 1), 1);
        changes(check, "settle", bank -> bank.settle(0, 2, 1), 2);
        changes(check, "order", bank -> bank.order(1, 2, 1, 1), 1);
        changes(check, "rest", bank -> bank.rest(65), 0);
    }

    /** The call is the first in a log that payments to account 0 then fill: so a checkpoint shows it. */
    private static void changes(Check check, String name, Twins.Call call, int accounts) {
        DayEndBank bank = new DayEndBank();
        for (int i = 0; i < 3; i++) {
            bank.open(0, 0, 1000, 0);
        }
        bank.hold(1, 5);
        payByCash(bank, 0, 8);
        isDue(check, "a full log", bank, 24, 24);
        check.due(name, call.answer(bank) >= 0, true);
        check.due("a checkpoint before " + name, bank.writes(), 24 + 4 + bank.lines());
        int payments = (24 - bank.lines()) / 2;
        payByCash(bank, 0, payments);
        int writes = bank.writes();
        payByCash(bank, 0, 1);
        isDue(check, "the checkpoint behind " + name, bank, 2, writes + accounts + 1 + 1 + 2);
    }

    /** At date 2 the step of account 1 opens a new log, and account 0 is changed by its order alone. */
    private static void accountsThatAStepChanges(Check check) {
        DayEndBank bank = new DayEndBank();
        bank.open(0, 0, 0, 0);
        bank.open(0, 0, 0, 0);
        bank.pay(-1, 1, 100);
        bank.order(1, 0, 5, 1);
        bank.run(2);
        isDue(check, "two day ends", bank, 20, 20);
        bank.run(1);
        isDue(check, "a checkpoint before the second step", bank, 4, 20 + 3 + 3 + 4);
        payByCash(bank, 1, 10);
        isDue(check, "a full log", bank, 24, 50);
        payByCash(bank, 1, 1);
        isDue(check, "a checkpoint of two", bank, 2, 50 + 3 + 2);
        ownAccountOfAStep(check);
    }

    /** The same, but the log is filled by payments to the account that was paid. */
    private static void ownAccountOfAStep(Check check) {
        DayEndBank bank = new DayEndBank();
        bank.open(0, 0, 0, 0);
        bank.open(0, 0, 0, 0);
        bank.pay(-1, 1, 100);
        bank.order(1, 0, 5, 1);
        bank.run(3);
        isDue(check, "a new log with the step of account 1", bank, 4, 30);
        payByCash(bank, 0, 11);
        isDue(check, "a checkpoint of both", bank, 2, 50 + 3 + 2);
    }

    private static void checkpointForgetsOlderTransactions(Check check) {
        DayEndBank bank = new DayEndBank();
        for (int i = 0; i < 6; i++) {
            bank.open(0, 0, 1000, 0);
        }
        payByCash(bank, 0, 6);
        bank.pay(4, 5, 1);
        isDue(check, "a checkpoint of six", bank, 3, 24 + 7 + 3);
        for (int i = 0; i < 7; i++) {
            bank.pay(4, 5, 1);
        }
        isDue(check, "24 lines of two accounts", bank, 24, 55);
        bank.pay(0, 1, 1);
        isDue(check, "a checkpoint of two", bank, 3, 55 + 3 + 3);
        bank.fuse(0);
        bank.pay(0, 1, 1);
        check.due("one transaction since", bank.restart(), 1);
    }

    /** The accounts of a transaction without an end are not written in a later checkpoint. */
    private static void nothingOfBrokenTransactions(Check check) {
        DayEndBank bank = new DayEndBank();
        for (int i = 0; i < 6; i++) {
            bank.open(0, 0, 1000, 0);
        }
        for (int i = 0; i < 5; i++) {
            bank.pay(0, 1, 1);
        }
        isDue(check, "a fresh log", bank, 3, 24 + 7 + 3);
        bank.fuse(2);
        check.due("pay(2, 3, 1)", bank.pay(2, 3, 1), DayEndBank.STOPPED);
        check.due("restart()", bank.restart(), 1);
        isDue(check, "restart", bank, 3, 36);
        for (int i = 0; i < 7; i++) {
            bank.pay(0, 1, 1);
        }
        bank.rest(37);
        isDue(check, "a checkpoint of two", bank, 1, 57 + 3 + 1);
    }

    /** 'Of a transaction whose end was not written nothing stays, nor any line in the log' */
    private static void stoppedInTheMiddleOfATransaction(Check check) {
        for (int fuse = 0; fuse < 3; fuse++) {
            DayEndBank bank = bankWithLines(21);
            bank.fuse(fuse);
            check.due("pay with fuse " + fuse, bank.pay(0, 1, 1), DayEndBank.STOPPED);
            check.due("writes() while stopped", bank.writes(), 21 + fuse);
            check.due("lines() while stopped", bank.lines(), 0);
            check.due("restart()", bank.restart(), 11);
            isDue(check, "restart", bank, 21, 21 + fuse);
            check.due("pay again", bank.pay(0, 1, 1), 0);
            isDue(check, "it fits yet", bank, 24, 21 + fuse + 3);
        }
    }

    /** The log is emptied by the last write of the checkpoint, and by none before. */
    private static void stoppedInTheMiddleOfACheckpoint(Check check) {
        for (int fuse = 0; fuse < 6; fuse++) {
            DayEndBank bank = bankWithLines(22);
            bank.fuse(fuse);
            check.due("pay with fuse " + fuse, bank.pay(0, 1, 1), DayEndBank.STOPPED);
            check.due("writes() while stopped", bank.writes(), 22 + fuse);
            boolean isEmptied = fuse >= 3;
            check.due("restart()", bank.restart(), isEmptied ? 0 : 11);
            isDue(check, "restart", bank, isEmptied ? 0 : 22, 22 + fuse);
            check.due("balance(0)", bank.balance(0), 90);
            check.due("rest", bank.rest(65), 0);
            isDue(check, "a line more", bank, isEmptied ? 1 : 23, 22 + fuse + 1);
            check.due("pay again", bank.pay(0, 1, 1), 0);
            isDue(check, "pay", bank, isEmptied ? 4 : 3, 22 + fuse + 1 + (isEmptied ? 3 : 6));
        }
    }

    /**
     * 'one write for each account that was changed by transactions in the log, and then one write that
     * empties the log': as long as that last write was not made, this holds for the next transaction as
     * it stands, whatever an earlier checkpoint has written, and whichever account was changed since.
     */
    private static void stoppedCheckpointIsMadeAgainAsAWhole(Check check) {
        for (int fuse = 0; fuse < 3; fuse++) {
            DayEndBank bank = bankWithTwoOfThreeInTheLog();
            isDue(check, "a log of accounts 0 and 1", bank, 22, 50);
            stopInThePayment(check, bank, fuse);
            isDue(check, "a stop after " + fuse, bank, 22, 50 + fuse);
            stopInThePayment(check, bank, 1);
            isDue(check, "another stop after 1", bank, 22, 50 + fuse + 1);
            payByCash(bank, 2, 1);
            isDue(check, "a payment to account 2 that fits", bank, 24, 50 + fuse + 1 + 2);
            check.due("pay(0, 1, 1)", bank.pay(0, 1, 1), 0);
            isDue(check, "a checkpoint of three", bank, 3, 50 + fuse + 1 + 2 + 4 + 3);
            check.due("balance(1)", bank.balance(1), 14);
            check.due("balance(2)", bank.balance(2), 10);
        }
    }

    /** Eight transactions stand in the log, none of them of account 2; three lines don't fit behind them. */
    private static DayEndBank bankWithTwoOfThreeInTheLog() {
        DayEndBank bank = new DayEndBank();
        for (int i = 0; i < 3; i++) {
            bank.open(0, 0, 1000, 0);
        }
        for (int i = 0; i < 13; i++) {
            bank.pay(0, 1, 1);
        }
        bank.rest(37);
        return bank;
    }

    private static void stopInThePayment(Check check, DayEndBank bank, int fuse) {
        bank.fuse(fuse);
        check.due("pay(0, 1, 1) with fuse " + fuse, bank.pay(0, 1, 1), DayEndBank.STOPPED);
        check.due("restart() after fuse " + fuse, bank.restart(), 8);
    }
}
