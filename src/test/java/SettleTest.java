/** Promise 6: settle. */
public final class SettleTest {
    public static void main(String[] args) {
        Check check = new Check();
        eachWayOfSettling(check);
        bothEndsOfTheAmount(check);
        whateverIsAvailable(check);
        noSuchHold(check);
        wrongPayees(check);
        wrongAmounts(check);
        busyWhileADayEndIsOpen(check);
        stoppedAtEachWrite(check);
        check.end();
    }

    private static void makeThree(DayEndBank bank) {
        bank.open(0, 0, 0, 0);
        bank.open(0, 0, 0, 0);
        bank.open(1, 0, 900, 0);
        bank.pay(-1, 0, 1000);
        bank.hold(0, 300);
        bank.hold(2, 7);
        bank.hold(0, 200);
        bank.release(1);
    }

    private static void makeThreeAndLeaveOpen(DayEndBank bank) {
        makeThree(bank);
        Machine.leaveDayEndOpen(bank);
    }

    /** 'Ends a hold and pays an amount from its account .. to another account or to cash (-1)' */
    private static void eachWayOfSettling(Check check) {
        DayEndBank bank = new DayEndBank();
        makeThree(bank);
        int writes = bank.writes();
        check.due("a part, to an account", bank.settle(0, 1, 100), 0);
        check.due("two lines and an end", bank.writes(), writes + 3);
        check.due("balance(0)", bank.balance(0), 900);
        check.due("balance(1)", bank.balance(1), 100);
        check.due("the whole hold has ended", bank.available(0), 700);
        check.due("it ended", bank.settle(0, 1, 100), DayEndBank.BAD);
        check.due("no cash was moved", bank.ledger(0, 0), 1000);
        check.due("a part, to cash", bank.settle(2, -1, 50), 0);
        check.due("one line and an end", bank.writes(), writes + 5);
        check.due("balance(0)", bank.balance(0), 850);
        check.due("available(0)", bank.available(0), 850);
        check.due("cash", bank.ledger(0, 0), 950);
        check.due("customers", bank.ledger(0, 2), 950);
    }

    /** 'amount is not 1 .. the hold's amount', within it */
    private static void bothEndsOfTheAmount(Check check) {
        DayEndBank bank = new DayEndBank();
        makeThree(bank);
        check.due("1 of 300", bank.settle(0, 1, 1), 0);
        check.due("200 of 200", bank.settle(2, -1, 200), 0);
        check.due("balance(0)", bank.balance(0), 799);
        check.due("available(0)", bank.available(0), 799);
        bank.pay(-1, 0, 1000000);
        bank.hold(0, 1000000);
        check.due("1000000 of 1000000", bank.settle(0, 1, 1000000), 0);
        bank.hold(0, 1);
        check.due("1 of 1", bank.settle(0, 1, 1), 0);
        check.due("balance(0)", bank.balance(0), 798);
    }

    /** '(whatever is available)': interest on a debt takes it below 0, and all the same it is paid. */
    private static void whateverIsAvailable(Check check) {
        DayEndBank bank = new DayEndBank();
        bank.open(0, 1, 1000000, 1000);
        bank.open(0, 1, 0, 0);
        bank.pay(0, -1, 900000);
        bank.hold(0, 100000);
        check.due("run(31)", bank.run(31), 31);
        check.due("balance(0)", bank.balance(0), -907750);
        check.due("available(0)", bank.available(0), -7750);
        check.due("pay is POOR", bank.pay(0, 1, 1), DayEndBank.POOR);
        check.due("settle is not", bank.settle(0, 1, 100000), 0);
        check.due("balance(0)", bank.balance(0), -1007750);
        check.due("available(0)", bank.available(0), -7750);
    }

    /** 'BAD when no hold with that number stands' */
    private static void noSuchHold(Check check) {
        Twins three = new Twins(check, SettleTest::makeThree);
        int[] noHolds = {-1, 1, 3, 7, 8, Integer.MIN_VALUE, Integer.MAX_VALUE};
        for (int wrong : noHolds) {
            three.refused("hold " + wrong + " to 1", bank -> bank.settle(wrong, 1, 1), DayEndBank.BAD);
            three.refused("hold " + wrong + " to cash", bank -> bank.settle(wrong, -1, 1), DayEndBank.BAD);
        }
        Twins full = new Twins(check, Machine::makeFull);
        full.refused("hold -1", bank -> bank.settle(-1, 1, 1), DayEndBank.BAD);
        full.refused("hold 8", bank -> bank.settle(8, 1, 1), DayEndBank.BAD);
        DayEndBank bank = new DayEndBank();
        Machine.makeFull(bank);
        check.due("the last hold", bank.settle(7, 1, 1), 0);
        check.due("the first hold", bank.settle(0, -1, 1), 0);
    }

    /** 'when to is neither -1 nor another account of the same currency' */
    private static void wrongPayees(Check check) {
        Twins three = new Twins(check, SettleTest::makeThree);
        three.refused("to its own account", bank -> bank.settle(0, 0, 1), DayEndBank.BAD);
        three.refused("to another currency", bank -> bank.settle(0, 2, 1), DayEndBank.BAD);
        int[] noAccounts = {-2, 3, 5, 6, Integer.MIN_VALUE, Integer.MAX_VALUE};
        for (int wrong : noAccounts) {
            three.refused("to " + wrong, bank -> bank.settle(0, wrong, 1), DayEndBank.BAD);
        }
        new Twins(check, Machine::makeFull).refused("to 6", bank -> bank.settle(0, 6, 1), DayEndBank.BAD);
    }

    /** 'when amount is not 1 .. the hold's amount' */
    private static void wrongAmounts(Check check) {
        Twins three = new Twins(check, SettleTest::makeThree);
        int[] wrongAmounts = {0, -1, 301, 1000000, 1000001, Integer.MIN_VALUE, Integer.MAX_VALUE};
        for (int wrong : wrongAmounts) {
            three.refused("amount " + wrong, bank -> bank.settle(0, 1, wrong), DayEndBank.BAD);
            three.refused("amount " + wrong, bank -> bank.settle(0, -1, wrong), DayEndBank.BAD);
        }
        three.refused("what the other hold has", bank -> bank.settle(2, 1, 201), DayEndBank.BAD);
    }

    private static void busyWhileADayEndIsOpen(Check check) {
        Twins open = new Twins(check, SettleTest::makeThreeAndLeaveOpen);
        open.refused("to an account", bank -> bank.settle(0, 1, 1), DayEndBank.BUSY);
        open.refused("to cash", bank -> bank.settle(0, -1, 1), DayEndBank.BUSY);
        DayEndBank bank = new DayEndBank();
        makeThreeAndLeaveOpen(bank);
        bank.run(1);
        check.due("no longer, when it is closed", bank.settle(0, 1, 1), 0);
    }

    private static void stoppedAtEachWrite(Check check) {
        Twins three = new Twins(check, SettleTest::makeThree);
        three.stoppedAtEachWrite("settle to an account", bank -> bank.settle(0, 1, 250), 3);
        three.stoppedAtEachWrite("settle to cash", bank -> bank.settle(2, -1, 150), 2);
    }
}
