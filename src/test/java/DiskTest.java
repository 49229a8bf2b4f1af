/** Promises 20 and 21: writes and lines, with the checkpoint of the log. */
public final class DiskTest {
    public static void main(String[] args) {
        Check check = new Check();
        linesOfEachCall(check);
        linesOfADayEnd(check);
        logJustFits(check);
        checkpointOfChangedAccounts(check);
        checkpointOfAPaidAccount(check);
        nothingForBrokenTransactions(check);
        check.end();
    }

    private static void isDue(Check check, String call, DayEndBank bank, int lines, int writes) {
        check.due("lines() after " + call, bank.lines(), lines);
        check.due("writes() after " + call, bank.writes(), writes);
    }

    private static void linesOfEachCall(Check check) {
        DayEndBank bank = new DayEndBank();
        bank.open(0, 0, 0, 0);
        isDue(check, "open", bank, 2, 2);
        bank.open(0, 0, 0, 0);
        bank.pay(-1, 0, 100);
        isDue(check, "pay by cash", bank, 6, 6);
        bank.pay(0, 1, 10);
        isDue(check, "pay between accounts", bank, 9, 9);
        bank.pay(1, -1, 10);
        isDue(check, "pay to cash", bank, 11, 11);
        bank.hold(0, 5);
        isDue(check, "hold", bank, 13, 13);
        bank.settle(0, 1, 5);
        isDue(check, "settle to an account", bank, 16, 16);
        bank.hold(0, 5);
        bank.settle(0, -1, 5);
        isDue(check, "settle to cash", bank, 20, 20);
        bank.rest(37);
        isDue(check, "rest", bank, 21, 21);
        bank.order(0, 1, 5, 5);
        isDue(check, "order", bank, 23, 23);
        bank.hold(0, 5);
        isDue(check, "hold behind a checkpoint", bank, 2, 23 + 3 + 2);
        bank.release(0);
        isDue(check, "release", bank, 4, 30);
        bank.pay(0, 1, 1000000);
        bank.pay(9, 9, 9);
        bank.run(0);
        bank.restart();
        isDue(check, "codes", bank, 4, 30);
    }

    /** At date 2 the orders of account 0 are due: two are paid, one of them to account 2. */
    private static void linesOfADayEnd(Check check) {
        DayEndBank bank = new DayEndBank();
        bank.run(1);
        isDue(check, "a day end without accounts", bank, 2, 2);
        for (int i = 0; i < 3; i++) {
            bank.open(0, 0, 0, 0);
        }
        bank.pay(-1, 0, 10);
        isDue(check, "the accounts", bank, 10, 10);
        bank.run(1);
        isDue(check, "begin, three steps and close", bank, 18, 18);
        bank.order(0, 1, 4, 1);
        bank.order(0, 1, 40, 1);
        bank.order(0, 2, 4, 1);
        isDue(check, "orders", bank, 24, 24);
        bank.run(1);
        check.due("balance(2)", bank.balance(2), 4);
        isDue(check, "a step that pays two orders", bank, 1 + 4 + 2 + 2 + 1, 24 + 4 + 10);
        bank.run(1);
        isDue(check, "a day end after it", bank, 18, 24 + 4 + 18);
    }

    private static void logJustFits(Check check) {
        DayEndBank bank = new DayEndBank();
        bank.open(0, 0, 0, 0);
        for (int i = 0; i < 11; i++) {
            bank.pay(-1, 0, 1);
        }
        isDue(check, "24 lines", bank, 24, 24);
        bank.rest(37);
        isDue(check, "one more", bank, 1, 24 + 2 + 1);
        for (int i = 0; i < 11; i++) {
            bank.pay(-1, 0, 1);
        }
        isDue(check, "23 lines", bank, 23, 49);
        bank.pay(-1, 0, 1);
        isDue(check, "two more", bank, 2, 49 + 2 + 2);
    }

    private static void checkpointOfChangedAccounts(Check check) {
        DayEndBank bank = new DayEndBank();
        for (int i = 0; i < 6; i++) {
            bank.open(0, 0, 1000, 0);
        }
        for (int i = 0; i < 4; i++) {
            bank.pay(0, 1, 1);
        }
        isDue(check, "24 lines of six accounts", bank, 24, 24);
        bank.pay(4, 5, 1);
        isDue(check, "a checkpoint of six", bank, 3, 24 + 7 + 3);
        for (int i = 0; i < 7; i++) {
            bank.pay(4, 5, 1);
        }
        isDue(check, "24 lines of two accounts", bank, 24, 55);
        bank.pay(0, 1, 1);
        isDue(check, "a checkpoint of two", bank, 3, 55 + 3 + 3);
        DayEndBank none = new DayEndBank();
        none.run(12);
        isDue(check, "24 lines of none", none, 24, 24);
        none.run(1);
        isDue(check, "a checkpoint of none", none, 2, 24 + 1 + 2);
    }

    /** At date 2 the step of account 1 opens a new log: in it account 0 is changed by an order alone. */
    private static void checkpointOfAPaidAccount(Check check) {
        DayEndBank bank = new DayEndBank();
        bank.open(0, 0, 0, 0);
        bank.open(0, 0, 0, 0);
        bank.pay(-1, 1, 100);
        bank.order(1, 0, 5, 1);
        bank.run(2);
        isDue(check, "two day ends", bank, 20, 20);
        bank.run(1);
        isDue(check, "a checkpoint before the second step", bank, 4, 20 + 3 + 3 + 4);
        for (int i = 0; i < 10; i++) {
            bank.pay(-1, 1, 1);
        }
        isDue(check, "a full log", bank, 24, 50);
        bank.pay(-1, 1, 1);
        isDue(check, "a checkpoint of two", bank, 2, 50 + 3 + 2);
    }

    /** The accounts of a transaction without an end are not written in a later checkpoint. */
    private static void nothingForBrokenTransactions(Check check) {
        DayEndBank bank = new DayEndBank();
        for (int i = 0; i < 6; i++) {
            bank.open(0, 0, 1000, 0);
        }
        for (int i = 0; i < 4; i++) {
            bank.pay(0, 1, 1);
        }
        bank.pay(0, 1, 1);
        isDue(check, "a fresh log", bank, 3, 24 + 7 + 3);
        bank.fuse(2);
        check.due("pay(2, 3, 1)", bank.pay(2, 3, 1), DayEndBank.STOPPED);
        check.due("writes() while stopped", bank.writes(), 36);
        check.due("lines() while stopped", bank.lines(), 0);
        check.due("restart()", bank.restart(), 1);
        isDue(check, "restart", bank, 3, 36);
        for (int i = 0; i < 7; i++) {
            bank.pay(0, 1, 1);
        }
        bank.rest(37);
        isDue(check, "a checkpoint of two", bank, 1, 57 + 3 + 1);
    }
}
