/**
 * Promises 12 to 18: balance, available, accrued, mark, ledger, missed, today. What they answer while the
 * machine is stopped is tested in StoppedTest.
 */
public final class ReadingsTest {
    public static void main(String[] args) {
        Check check = new Check();
        asTheyAre(check, bankWithHistory());
        zeroWhenThereIsNoSuchAccount(check);
        zeroWhenThereIsNoSuchOrder(check);
        zeroWhenThereIsNoSuchSum(check);
        availableBelowZero(check);
        currenciesAreApart(check);
        readingChangesNothing(check);
        whileADayEndIsOpen(check);
        ledgerIsEven(check);
        check.end();
    }

    private static void makeHistory(DayEndBank bank) {
        bank.open(1, 1, 200, 1000);
        bank.open(1, 2, 0, 1000);
        bank.pay(-1, 0, 3600);
        bank.hold(0, 300);
        bank.order(1, 0, 1, 3);
        bank.run(4);
    }

    private static DayEndBank bankWithHistory() {
        DayEndBank bank = new DayEndBank();
        makeHistory(bank);
        return bank;
    }

    private static void asTheyAre(Check check, DayEndBank bank) {
        check.due("today()", bank.today(), 4);
        check.due("balance(0)", bank.balance(0), 3600);
        check.due("available(0)", bank.available(0), 3500);
        check.due("available(1)", bank.available(1), 0);
        check.due("accrued(0)", bank.accrued(0), 3600L * 1000 * 4);
        check.due("mark(0)", bank.mark(0), 3);
        check.due("mark(1)", bank.mark(1), 3);
        check.due("missed(0)", bank.missed(0), 1);
        check.due("ledger(1, 0)", bank.ledger(1, 0), 3600);
        check.due("ledger(1, 1)", bank.ledger(1, 1), 0);
        check.due("ledger(1, 2)", bank.ledger(1, 2), 3600);
        bank.run(27);
        check.due("today()", bank.today(), 31);
        check.due("balance(0) after January", bank.balance(0), 3631);
        check.due("ledger(1, 1)", bank.ledger(1, 1), 31);
        check.due("ledger(1, 2)", bank.ledger(1, 2), 3631);
        check.due("accrued(0)", bank.accrued(0), 0);
    }

    /** '0 when there is none', with no account, with two, and with all six */
    private static void zeroWhenThereIsNoSuchAccount(Check check) {
        int[] neverAccounts = {-2, -1, 6, 7, 8, Integer.MIN_VALUE, Integer.MAX_VALUE};
        DayEndBank six = new DayEndBank();
        for (int i = 0; i < 6; i++) {
            six.open(0, 1, 100, 1000);
            six.pay(-1, i, 100);
        }
        six.run(5);
        for (int wrong : neverAccounts) {
            isNoAccount(check, new DayEndBank(), wrong);
            isNoAccount(check, bankWithHistory(), wrong);
            isNoAccount(check, six, wrong);
        }
        for (int i = 0; i < 6; i++) {
            isNoAccount(check, new DayEndBank(), i);
            check.due("balance(" + i + ") of six", six.balance(i), 100);
            check.due("available(" + i + ") of six", six.available(i), 200);
            check.due("accrued(" + i + ") of six", six.accrued(i), 500000);
            check.due("mark(" + i + ") of six", six.mark(i), 4);
        }
        isNoAccount(check, bankWithHistory(), 2);
        isNoAccount(check, bankWithHistory(), 5);
    }

    private static void isNoAccount(Check check, DayEndBank bank, int wrong) {
        check.due("balance(" + wrong + ")", bank.balance(wrong), 0);
        check.due("available(" + wrong + ")", bank.available(wrong), 0);
        check.due("accrued(" + wrong + ")", bank.accrued(wrong), 0);
        check.due("mark(" + wrong + ")", bank.mark(wrong), 0);
    }

    private static void zeroWhenThereIsNoSuchOrder(Check check) {
        DayEndBank bank = bankWithHistory();
        DayEndBank full = new DayEndBank();
        full.open(0, 0, 0, 0);
        full.open(0, 0, 0, 0);
        for (int i = 0; i < 6; i++) {
            full.order(0, 1, 1, 3);
        }
        full.run(3);
        int[] neverOrders = {-2, -1, 6, 7, Integer.MIN_VALUE, Integer.MAX_VALUE};
        for (int wrong : neverOrders) {
            check.due("missed(" + wrong + ") of one", bank.missed(wrong), 0);
            check.due("missed(" + wrong + ") of six", full.missed(wrong), 0);
            check.due("missed(" + wrong + ") of none", new DayEndBank().missed(wrong), 0);
        }
        for (int i = 0; i < 6; i++) {
            check.due("missed(" + i + ") of six", full.missed(i), 1);
            check.due("missed(" + i + ") of one", bank.missed(i), i == 0 ? 1 : 0);
            check.due("missed(" + i + ") of none", new DayEndBank().missed(i), 0);
        }
    }

    /** '0 when currency or which is not 0 .. 2' */
    private static void zeroWhenThereIsNoSuchSum(Check check) {
        DayEndBank bank = new DayEndBank();
        for (int i = 0; i < 3; i++) {
            bank.open(i, 1, 0, 1000);
            bank.pay(-1, i, 36000 + i);
        }
        bank.run(31);
        for (int i = 0; i < 3; i++) {
            check.due("cash of " + i, bank.ledger(i, 0), 36000 + i);
            check.due("interest of " + i, bank.ledger(i, 1), 310);
            check.due("customers of " + i, bank.ledger(i, 2), 36310 + i);
        }
        int[] wrongThree = {-1, 3, Integer.MIN_VALUE, Integer.MAX_VALUE};
        for (int wrong : wrongThree) {
            for (int i = 0; i < 3; i++) {
                check.due("ledger(" + i + ", " + wrong + ")", bank.ledger(i, wrong), 0);
                check.due("ledger(" + wrong + ", " + i + ")", bank.ledger(wrong, i), 0);
            }
            check.due("ledger(" + wrong + ", " + wrong + ")", bank.ledger(wrong, wrong), 0);
        }
    }

    private static void availableBelowZero(Check check) {
        DayEndBank bank = new DayEndBank();
        bank.open(0, 1, 3600, 1000);
        bank.pay(0, -1, 3000);
        bank.hold(0, 600);
        check.due("nothing", bank.available(0), 0);
        bank.run(31);
        check.due("balance(0)", bank.balance(0), -3026);
        check.due("below 0 by the interest", bank.available(0), -26);
    }

    private static void currenciesAreApart(Check check) {
        DayEndBank bank = new DayEndBank();
        bank.open(2, 0, 500, 0);
        bank.open(0, 0, 500, 0);
        bank.open(2, 0, 500, 0);
        bank.pay(-1, 1, 7);
        bank.pay(0, -1, 11);
        bank.pay(2, 0, 20);
        bank.hold(2, 30);
        bank.settle(0, -1, 30);
        check.due("cash of 0", bank.ledger(0, 0), 7);
        check.due("customers of 0", bank.ledger(0, 2), 7);
        check.due("cash of 1", bank.ledger(1, 0), 0);
        check.due("customers of 1", bank.ledger(1, 2), 0);
        check.due("cash of 2", bank.ledger(2, 0), -41);
        check.due("customers of 2", bank.ledger(2, 2), -41);
    }

    private static void readingChangesNothing(Check check) {
        Twins twins = new Twins(check, ReadingsTest::makeHistory);
        twins.refused("balance", bank -> bank.balance(0), 3600);
        twins.refused("available", bank -> bank.available(0), 3500);
        twins.refused("accrued", bank -> bank.accrued(0), 14400000);
        twins.refused("mark", bank -> bank.mark(0), 3);
        twins.refused("cash", bank -> bank.ledger(1, 0), 3600);
        twins.refused("interest", bank -> bank.ledger(1, 1), 0);
        twins.refused("customers", bank -> bank.ledger(1, 2), 3600);
        twins.refused("missed", bank -> bank.missed(0), 1);
        twins.refused("today", DayEndBank::today, 4);
        twins.refused("count", bank -> bank.count(2, 0, 30), 30);
        twins.refused("writes", DayEndBank::writes, 37);
        twins.refused("lines", DayEndBank::lines, 11);
    }

    private static void whileADayEndIsOpen(Check check) {
        DayEndBank bank = bankWithHistory();
        bank.fuse(3);
        bank.run(1);
        bank.restart();
        check.due("pay is BUSY", bank.pay(-1, 0, 1), DayEndBank.BUSY);
        check.due("balance(0)", bank.balance(0), 3600);
        check.due("available(0)", bank.available(0), 3500);
        check.due("accrued(0) has its step", bank.accrued(0), 3600L * 1000 * 5);
        check.due("mark(0) has its step", bank.mark(0), 4);
        check.due("mark(1) has none", bank.mark(1), 3);
        check.due("missed(0)", bank.missed(0), 1);
        check.due("today() waits for the close", bank.today(), 4);
        check.due("ledger(1, 2)", bank.ledger(1, 2), 3600);
        check.due("lines()", bank.lines(), 14);
    }

    /** 'CASH + INTEREST is CUSTOMERS' */
    private static void ledgerIsEven(Check check) {
        DayEndBank bank = new DayEndBank();
        for (int i = 0; i < 6; i++) {
            bank.open(i % 3, i % 3, 1000000, 100 * i + 77);
            bank.pay(-1, i, 123456 * (i + 1));
        }
        bank.pay(5, 2, 1700000 / 2);
        bank.pay(4, -1, 1000000);
        for (int month = 0; month < 30; month++) {
            bank.run(31);
            for (int currency = 0; currency < 3; currency++) {
                long customers = bank.ledger(currency, 2);
                check.due("cash and interest", bank.ledger(currency, 0) + bank.ledger(currency, 1), customers);
                check.due("two balances", bank.balance(currency) + bank.balance(currency + 3), customers);
            }
        }
        check.due("cash of 1", bank.ledger(1, 0), 123456L * 7 - 1000000);
        check.due("interest of 0 was paid", bank.ledger(0, 1) > 0, true);
    }
}
