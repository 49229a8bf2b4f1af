/** Promise 3: pay. */
public final class PayTest {
    public static void main(String[] args) {
        Check check = new Check();
        eachWayOfPaying(check);
        bothEndsOfTheAmount(check);
        neitherAccountNorCash(check);
        theSame(check);
        twoCurrencies(check);
        wrongAmounts(check);
        poorWhenLessIsAvailable(check);
        limitAndHoldsCount(check);
        cashIsNeverPoor(check);
        busyWhileADayEndIsOpen(check);
        stoppedAtEachWrite(check);
        check.end();
    }

    private static void makeThree(DayEndBank bank) {
        bank.open(0, 0, 100, 0);
        bank.open(0, 0, 0, 0);
        bank.open(1, 0, 50, 0);
        bank.pay(-1, 0, 500);
        bank.pay(-1, 2, 500);
    }

    private static void makeThreeAndLeaveOpen(DayEndBank bank) {
        makeThree(bank);
        Machine.leaveDayEndOpen(bank);
    }

    private static void eachWayOfPaying(Check check) {
        DayEndBank bank = new DayEndBank();
        bank.open(0, 0, 100, 0);
        bank.open(0, 0, 0, 0);
        bank.open(1, 0, 50, 0);
        check.due("from cash", bank.pay(-1, 0, 1000000), 0);
        check.due("a line and an end", bank.writes(), 6 + 2);
        check.due("between accounts", bank.pay(0, 1, 1), 0);
        check.due("two lines and an end", bank.writes(), 8 + 3);
        check.due("to cash", bank.pay(0, -1, 400), 0);
        check.due("a line and an end", bank.writes(), 11 + 2);
        check.due("into the limit", bank.pay(2, -1, 50), 0);
        check.due("balance(0)", bank.balance(0), 999599);
        check.due("balance(1)", bank.balance(1), 1);
        check.due("a balance below 0", bank.balance(2), -50);
        check.due("cash of 0", bank.ledger(0, 0), 999600);
        check.due("cash of 1", bank.ledger(1, 0), -50);
        check.due("customers of 0", bank.ledger(0, 2), 999600);
        check.due("customers of 1", bank.ledger(1, 2), -50);
        check.due("interest of 0", bank.ledger(0, 1), 0);
    }

    private static void bothEndsOfTheAmount(Check check) {
        DayEndBank bank = new DayEndBank();
        makeThree(bank);
        check.due("1 from cash", bank.pay(-1, 1, 1), 0);
        check.due("1000000 from cash", bank.pay(-1, 1, 1000000), 0);
        check.due("1 between accounts", bank.pay(1, 0, 1), 0);
        check.due("1000000 between accounts", bank.pay(1, 0, 1000000), 0);
        check.due("1 to cash", bank.pay(0, -1, 1), 0);
        check.due("1000000 to cash", bank.pay(0, -1, 1000000), 0);
        check.due("balance(0)", bank.balance(0), 500);
        check.due("balance(1)", bank.balance(1), 0);
        check.due("cash", bank.ledger(0, 0), 500);
    }

    /** 'BAD when from or to is neither an account nor -1' */
    private static void neitherAccountNorCash(Check check) {
        Twins three = new Twins(check, PayTest::makeThree);
        int[] wrongNumbers = {-2, 3, 5, 6, Integer.MIN_VALUE, Integer.MAX_VALUE};
        for (int wrong : wrongNumbers) {
            three.refused("from " + wrong, bank -> bank.pay(wrong, 0, 1), DayEndBank.BAD);
            three.refused("to " + wrong, bank -> bank.pay(0, wrong, 1), DayEndBank.BAD);
            three.refused("from cash to " + wrong, bank -> bank.pay(-1, wrong, 1), DayEndBank.BAD);
            three.refused("to cash from " + wrong, bank -> bank.pay(wrong, -1, 1), DayEndBank.BAD);
        }
        Twins full = new Twins(check, Machine::makeFull);
        full.refused("from 6", bank -> bank.pay(6, 1, 1), DayEndBank.BAD);
        full.refused("to 6", bank -> bank.pay(-1, 6, 1), DayEndBank.BAD);
    }

    /** 'when they are the same' */
    private static void theSame(Check check) {
        Twins three = new Twins(check, PayTest::makeThree);
        three.refused("cash to cash", bank -> bank.pay(-1, -1, 1), DayEndBank.BAD);
        three.refused("0 to 0", bank -> bank.pay(0, 0, 1), DayEndBank.BAD);
        three.refused("2 to 2", bank -> bank.pay(2, 2, 1), DayEndBank.BAD);
        three.refused("a number of none to itself", bank -> bank.pay(3, 3, 1), DayEndBank.BAD);
    }

    /** 'when they are accounts of two currencies' */
    private static void twoCurrencies(Check check) {
        Twins three = new Twins(check, PayTest::makeThree);
        three.refused("0 to 2", bank -> bank.pay(0, 2, 1), DayEndBank.BAD);
        three.refused("2 to 0", bank -> bank.pay(2, 0, 1), DayEndBank.BAD);
        three.refused("2 to 1", bank -> bank.pay(2, 1, 1), DayEndBank.BAD);
    }

    /** 'when amount is not 1 .. 1000000' */
    private static void wrongAmounts(Check check) {
        Twins three = new Twins(check, PayTest::makeThree);
        int[] wrongAmounts = {0, -1, 1000001, Integer.MIN_VALUE, Integer.MAX_VALUE};
        for (int wrong : wrongAmounts) {
            three.refused("cash pays " + wrong, bank -> bank.pay(-1, 0, wrong), DayEndBank.BAD);
            three.refused("an account pays " + wrong, bank -> bank.pay(0, 1, wrong), DayEndBank.BAD);
            three.refused("cash is paid " + wrong, bank -> bank.pay(0, -1, wrong), DayEndBank.BAD);
        }
    }

    /** 'POOR when from is an account of which less is available' */
    private static void poorWhenLessIsAvailable(Check check) {
        Twins three = new Twins(check, PayTest::makeThree);
        three.refused("one more, to an account", bank -> bank.pay(0, 1, 601), DayEndBank.POOR);
        three.refused("one more, to cash", bank -> bank.pay(0, -1, 601), DayEndBank.POOR);
        three.refused("1 of nothing", bank -> bank.pay(1, 0, 1), DayEndBank.POOR);
        DayEndBank bank = new DayEndBank();
        makeThree(bank);
        check.due("all that is available, to an account", bank.pay(0, 1, 600), 0);
        check.due("nothing is left", bank.available(0), 0);
        check.due("balance(0)", bank.balance(0), -100);
        check.due("1 more", bank.pay(0, 1, 1), DayEndBank.POOR);
        check.due("all that is available, to cash", bank.pay(1, -1, 600), 0);
        check.due("balance(1)", bank.balance(1), 0);
    }

    private static void limitAndHoldsCount(Check check) {
        DayEndBank bank = new DayEndBank();
        makeThree(bank);
        bank.hold(0, 30);
        bank.hold(0, 200);
        check.due("500 + 100 - 230, and one more", bank.pay(0, 1, 371), DayEndBank.POOR);
        check.due("500 + 100 - 230", bank.pay(0, 1, 370), 0);
        bank.release(0);
        check.due("what a released hold gives, and one more", bank.pay(0, 1, 31), DayEndBank.POOR);
        check.due("what a released hold gives", bank.pay(0, 1, 30), 0);
    }

    private static void cashIsNeverPoor(Check check) {
        DayEndBank bank = new DayEndBank();
        bank.open(0, 0, 0, 0);
        for (int i = 1; i <= 30; i++) {
            check.due("from cash", bank.pay(-1, 0, 1000000), 0);
        }
        check.due("balance(0)", bank.balance(0), 30000000);
        check.due("cash", bank.ledger(0, 0), 30000000);
    }

    private static void busyWhileADayEndIsOpen(Check check) {
        Twins open = new Twins(check, PayTest::makeThreeAndLeaveOpen);
        open.refused("from cash", bank -> bank.pay(-1, 0, 1), DayEndBank.BUSY);
        open.refused("between accounts", bank -> bank.pay(0, 1, 1), DayEndBank.BUSY);
        open.refused("to cash", bank -> bank.pay(0, -1, 1), DayEndBank.BUSY);
        DayEndBank bank = new DayEndBank();
        makeThreeAndLeaveOpen(bank);
        bank.run(1);
        check.due("no longer, when it is closed", bank.pay(0, 1, 1), 0);
    }

    private static void stoppedAtEachWrite(Check check) {
        Twins three = new Twins(check, PayTest::makeThree);
        three.stoppedAtEachWrite("pay from cash", bank -> bank.pay(-1, 0, 70), 2);
        three.stoppedAtEachWrite("pay between accounts", bank -> bank.pay(0, 1, 70), 3);
        three.stoppedAtEachWrite("pay to cash", bank -> bank.pay(2, -1, 70), 2);
    }
}
