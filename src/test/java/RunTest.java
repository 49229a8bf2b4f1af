/** Promise 9: run, with the steps of a day end. */
public final class RunTest {
    public static void main(String[] args) {
        Check check = new Check();
        answers(check);
        ordersOfAStep(check);
        accrualOfEachBasis(check);
        halvesGoToTheEven(check);
        goingOn(check);
        stopAtEveryWrite(check);
        check.end();
    }

    private static void answers(Check check) {
        DayEndBank bank = new DayEndBank();
        int[] wrongNumbers = {0, -1, 32, Integer.MIN_VALUE, Integer.MAX_VALUE};
        for (int wrong : wrongNumbers) {
            check.due("run(" + wrong + ")", bank.run(wrong), DayEndBank.BAD);
        }
        check.due("today()", bank.today(), 0);
        check.due("run(1)", bank.run(1), 1);
        check.due("run(31)", bank.run(31), 31);
        check.due("today()", bank.today(), 32);
        bank.open(0, 0, 0, 0);
        Machine.leaveDayEndOpen(bank);
        check.due("BAD while one is open", bank.run(0), DayEndBank.BAD);
        check.due("never BUSY", bank.run(1), 1);
        check.due("today()", bank.today(), 33);
        Machine.stop(bank);
        check.due("STOPPED", bank.run(1), DayEndBank.STOPPED);
        check.due("STOPPED before BAD", bank.run(0), DayEndBank.STOPPED);
    }

    /** All at date 2, which is the first date of January 2000 that is no rest day. */
    private static void ordersOfAStep(Check check) {
        DayEndBank bank = new DayEndBank();
        bank.open(0, 0, 10, 0);
        bank.open(0, 0, 0, 0);
        bank.pay(-1, 0, 90);
        bank.hold(0, 20);
        bank.order(1, 0, 70, 1);
        bank.order(0, 1, 60, 3);
        bank.order(0, 1, 21, 2);
        bank.order(0, 1, 20, 1);
        bank.order(1, 0, 11, 1);
        bank.run(2);
        check.due("none is due before", bank.balance(0), 90);
        check.due("run(1)", bank.run(1), 1);
        check.due("too much for what is left", bank.missed(2), 1);
        check.due("just what is left", bank.missed(3), 0);
        check.due("account 1 pays of what it was paid", bank.missed(0), 0);
        check.due("in the order of their numbers", bank.missed(4), 1);
        check.due("balance(0)", bank.balance(0), 90 - 60 - 20 + 70);
        check.due("balance(1)", bank.balance(1), 60 + 20 - 70);
        Machine.runDays(bank, 31);
        check.due("February 1st: account 1 has 30", bank.missed(0), 1);
        check.due("so the smaller one is paid", bank.missed(4), 1);
        check.due("February 2nd: 61 are available", bank.missed(2), 1);
        check.due("February 3rd: 40 are available", bank.missed(1), 1);
        check.due("balance(0)", bank.balance(0), 50);
        check.due("balance(1)", bank.balance(1), 40);
    }

    private static void accrualOfEachBasis(Check check) {
        DayEndBank bank = new DayEndBank();
        for (int basis = 0; basis < 3; basis++) {
            bank.open(basis, basis, 0, 100 + basis);
            bank.pay(-1, basis, 1000);
        }
        bank.run(29);
        check.due("basis 0", bank.accrued(0), 1000L * 100 * 29);
        check.due("basis 1", bank.accrued(1), 1000L * 101 * 29);
        check.due("basis 2", bank.accrued(2), 1000L * 102 * 29);
        bank.run(1);
        check.due("basis 2 counts 0 from the 30th to the 31st", bank.accrued(2), 1000L * 102 * 29);
        check.due("basis 1 counts 1", bank.accrued(1), 1000L * 101 * 30);
        check.due("no interest yet", bank.balance(0), 1000);
        bank.run(1);
        check.due("interest of basis 0: 0.849", bank.balance(0), 1001);
        check.due("accrual of basis 0", bank.accrued(0), 3100000L - 3650000);
        check.due("interest of basis 1: 0.870", bank.balance(1), 1001);
        check.due("accrual of basis 1", bank.accrued(1), 3131000L - 3600000);
        check.due("interest of basis 2: 0.850", bank.balance(2), 1001);
        check.due("accrual of basis 2", bank.accrued(2), 3060000L - 3600000);
        check.due("ledger(2, 1)", bank.ledger(2, 1), 1);
        Machine.runDays(bank, 29);
        check.due("basis 2 counts 2 at the end of February 2000", bank.accrued(2),
                3060000L - 3600000 + 1001L * 102 * 30 - 3600000);
        check.due("balance(2)", bank.balance(2), 1002);
    }

    /** With basis 1, rate 1000 and 30 days left in the month, 60 units of balance make a half. */
    private static void halvesGoToTheEven(Check check) {
        int[][] balancesAndInterest = {{60, 0}, {61, 1}, {180, 2}, {179, 1}, {300, 2}, {301, 3}, {420, 4}};
        for (int[] row : balancesAndInterest) {
            check.due("interest on " + row[0], interestOf(row[0]), row[1]);
            check.due("interest on -" + row[0], interestOf(-row[0]), -row[1]);
        }
    }

    private static long interestOf(int balance) {
        DayEndBank bank = new DayEndBank();
        bank.open(0, 1, 1000, 1000);
        bank.run(1);
        if (balance > 0) {
            bank.pay(-1, 0, balance);
        } else {
            bank.pay(0, -1, -balance);
        }
        bank.run(30);
        return bank.balance(0) - balance;
    }

    private static void goingOn(Check check) {
        DayEndBank bank = new DayEndBank();
        for (int i = 0; i < 3; i++) {
            bank.open(0, 0, 100, 100);
        }
        bank.pay(-1, 0, 50);
        bank.fuse(4);
        check.due("stops in the second step", bank.run(3), DayEndBank.STOPPED);
        bank.restart();
        check.due("the first step stays", bank.mark(0), 0);
        check.due("the second does not", bank.mark(1), -1);
        check.due("its accrual", bank.accrued(0), 5000);
        check.due("the open one is the first of them", bank.run(2), 2);
        check.due("today()", bank.today(), 2);
        check.due("no step was made twice", bank.accrued(0), 10000);
        check.due("mark(2)", bank.mark(2), 1);
        check.due("pay after it", bank.pay(-1, 0, 1), 0);
    }

    /** Wherever the machine stops, the state after going on is that of a run without a stop. */
    private static void stopAtEveryWrite(Check check) {
        DayEndBank whole = bankWithOrders();
        whole.run(31);
        for (int fuse = 0; fuse <= 300; fuse++) {
            DayEndBank bank = bankWithOrders();
            bank.fuse(fuse);
            if (bank.run(31) == DayEndBank.STOPPED) {
                bank.restart();
                int left = 31 - bank.today();
                check.due("run(" + left + ") after fuse " + fuse, bank.run(left), left);
            }
            check.due("today() after fuse " + fuse, bank.today(), 31);
            for (int i = 0; i < 3; i++) {
                check.due("balance after fuse " + fuse, bank.balance(i), whole.balance(i));
                check.due("accrual after fuse " + fuse, bank.accrued(i), whole.accrued(i));
                check.due("mark after fuse " + fuse, bank.mark(i), 30);
                check.due("misses after fuse " + fuse, bank.missed(i), whole.missed(i));
            }
        }
    }

    private static DayEndBank bankWithOrders() {
        DayEndBank bank = new DayEndBank();
        for (int i = 0; i < 3; i++) {
            bank.open(0, i, 500, 900);
        }
        bank.pay(-1, 0, 100000);
        bank.order(0, 1, 5000, 10);
        bank.order(1, 2, 5000, 10);
        bank.order(2, 0, 700000, 20);
        bank.order(0, 2, 30, 31);
        bank.order(0, 1, 40, 31);
        return bank;
    }
}
