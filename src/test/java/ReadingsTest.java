/** Promises 12 to 18: balance, available, accrued, mark, ledger, missed, today. */
public final class ReadingsTest {
    private static final int[] NO_ACCOUNTS = {-1, 2, 6, Integer.MIN_VALUE, Integer.MAX_VALUE};

    public static void main(String[] args) {
        Check check = new Check();
        DayEndBank bank = bankWithHistory();
        asTheyAre(check, bank);
        zerosForWhatIsNotThere(check, bank);
        readingWritesNothing(check, bank);
        zerosWhileStopped(check);
        whileADayEndIsOpen(check);
        ledgerIsEven(check);
        check.end();
    }

    private static DayEndBank bankWithHistory() {
        DayEndBank bank = new DayEndBank();
        bank.open(1, 1, 200, 1000);
        bank.open(1, 2, 0, 1000);
        bank.pay(-1, 0, 3600);
        bank.hold(0, 300);
        bank.order(1, 0, 1, 3);
        bank.run(4);
        return bank;
    }

    private static void asTheyAre(Check check, DayEndBank bank) {
        check.due("today()", bank.today(), 4);
        check.due("balance(0)", bank.balance(0), 3600);
        check.due("available(0)", bank.available(0), 3500);
        check.due("available(1)", bank.available(1), 0);
        check.due("accrued(0)", bank.accrued(0), 3600L * 1000 * 4);
        check.due("mark(0)", bank.mark(0), 3);
        check.due("mark(1)", bank.mark(1), 3);
        check.due("missed(0)", bank.missed(0), 1);
        check.due("ledger(1, 0)", bank.ledger(1, 0), 3600);
        check.due("ledger(1, 1)", bank.ledger(1, 1), 0);
        check.due("ledger(1, 2)", bank.ledger(1, 2), 3600);
        check.due("ledger(0, 0)", bank.ledger(0, 0), 0);
        check.due("ledger(2, 2)", bank.ledger(2, 2), 0);
        bank.run(27);
        check.due("balance(0) after January", bank.balance(0), 3631);
        check.due("ledger(1, 1)", bank.ledger(1, 1), 31);
        check.due("ledger(1, 2)", bank.ledger(1, 2), 3631);
        check.due("accrued(0)", bank.accrued(0), 0);
    }

    private static void zerosForWhatIsNotThere(Check check, DayEndBank bank) {
        for (int wrong : NO_ACCOUNTS) {
            check.due("balance(" + wrong + ")", bank.balance(wrong), 0);
            check.due("available(" + wrong + ")", bank.available(wrong), 0);
            check.due("accrued(" + wrong + ")", bank.accrued(wrong), 0);
            check.due("mark(" + wrong + ")", bank.mark(wrong), 0);
            check.due("missed(" + wrong + ")", bank.missed(wrong), 0);
        }
        int[] wrongThree = {-1, 3, Integer.MIN_VALUE, Integer.MAX_VALUE};
        for (int wrong : wrongThree) {
            check.due("ledger(1, " + wrong + ")", bank.ledger(1, wrong), 0);
            check.due("ledger(" + wrong + ", 2)", bank.ledger(wrong, 2), 0);
        }
    }

    private static void readingWritesNothing(Check check, DayEndBank bank) {
        int writes = bank.writes();
        bank.fuse(0);
        check.due("balance(0)", bank.balance(0), 3631);
        bank.available(0);
        bank.accrued(0);
        bank.mark(0);
        bank.ledger(1, 2);
        bank.missed(0);
        bank.count(0, 0, 1);
        bank.lines();
        check.due("today()", bank.today(), 31);
        check.due("writes()", bank.writes(), writes);
        bank.fuse(-1);
    }

    private static void zerosWhileStopped(Check check) {
        DayEndBank bank = bankWithHistory();
        int writes = bank.writes();
        Machine.stop(bank);
        check.due("balance(0)", bank.balance(0), 0);
        check.due("available(0)", bank.available(0), 0);
        check.due("accrued(0)", bank.accrued(0), 0);
        check.due("mark(0)", bank.mark(0), 0);
        check.due("ledger(1, 0)", bank.ledger(1, 0), 0);
        check.due("ledger(1, 2)", bank.ledger(1, 2), 0);
        check.due("missed(0)", bank.missed(0), 0);
        check.due("today()", bank.today(), 0);
        check.due("lines()", bank.lines(), 0);
        check.due("fuse(1)", bank.fuse(1), false);
        check.due("writes() works", bank.writes(), writes);
        check.due("count() works", bank.count(2, 0, 30), 30);
        check.due("count() of wrong numbers", bank.count(3, 0, 30), -1);
        check.due("restart() works", bank.restart() >= 0, true);
        asTheyAre(check, bank);
    }

    private static void whileADayEndIsOpen(Check check) {
        DayEndBank bank = bankWithHistory();
        Machine.leaveDayEndOpen(bank);
        check.due("pay is BUSY", bank.pay(-1, 0, 1), DayEndBank.BUSY);
        check.due("balance(0)", bank.balance(0), 3600);
        check.due("available(0)", bank.available(0), 3500);
        check.due("mark(0)", bank.mark(0), 3);
        check.due("missed(0)", bank.missed(0), 1);
        check.due("today()", bank.today(), 4);
        check.due("ledger(1, 2)", bank.ledger(1, 2), 3600);
    }

    private static void ledgerIsEven(Check check) {
        DayEndBank bank = new DayEndBank();
        for (int i = 0; i < 6; i++) {
            bank.open(i % 3, i % 3, 1000000, 100 * i + 77);
            bank.pay(-1, i, 123456 * (i + 1));
        }
        bank.pay(5, 2, 1700000 / 2);
        bank.pay(4, -1, 1000000);
        for (int month = 0; month < 40; month++) {
            bank.run(31);
            for (int currency = 0; currency < 3; currency++) {
                check.due("cash and interest are customers",
                        bank.ledger(currency, 0) + bank.ledger(currency, 1), bank.ledger(currency, 2));
                check.due("customers are two balances",
                        bank.balance(currency) + bank.balance(currency + 3), bank.ledger(currency, 2));
            }
        }
        check.due("cash of 1", bank.ledger(1, 0), 123456L * 7 - 1000000);
        check.due("interest of 0 was paid", bank.ledger(0, 1) > 0, true);
    }
}
