/** Promise 7: order. When orders are due is tested in DueDateTest, what they do in StepTest. */
public final class OrderTest {
    public static void main(String[] args) {
        Check check = new Check();
        numbersInTheOrderOfMaking(check);
        bothEndsOfEachRange(check);
        notTwoAccounts(check);
        twoCurrencies(check);
        wrongAmounts(check);
        wrongDays(check);
        fullWhenThereAreSix(check);
        neverPoor(check);
        busyWhileADayEndIsOpen(check);
        stoppedAtEachWrite(check);
        stoppedOrderIsGone(check);
        check.end();
    }

    private static void makeThree(DayEndBank bank) {
        bank.open(0, 0, 1000, 0);
        bank.open(0, 0, 0, 0);
        bank.open(1, 0, 0, 0);
        bank.order(1, 0, 2, 9);
    }

    private static void makeThreeAndLeaveOpen(DayEndBank bank) {
        makeThree(bank);
        Machine.leaveDayEndOpen(bank);
    }

    /** 'ORDERS: at most 6, numbered 0, 1, .. in the order of making'; '(0 at first)' */
    private static void numbersInTheOrderOfMaking(Check check) {
        DayEndBank bank = new DayEndBank();
        bank.open(0, 0, 0, 0);
        bank.open(0, 0, 0, 0);
        for (int i = 0; i < 6; i++) {
            check.due("order number " + i, bank.order(i % 2, 1 - i % 2, 5, 4), i);
            check.due("a line and an end", bank.writes(), 4 + 2 * i + 2);
            check.due("no misses", bank.missed(i), 0);
        }
        check.due("no money moved", bank.balance(0), 0);
        check.due("nothing is held", bank.available(0), 0);
    }

    private static void bothEndsOfEachRange(Check check) {
        DayEndBank bank = new DayEndBank();
        makeThree(bank);
        check.due("amount 1", bank.order(0, 1, 1, 15), 1);
        check.due("amount 1000000", bank.order(0, 1, 1000000, 15), 2);
        check.due("day 1", bank.order(0, 1, 5, 1), 3);
        check.due("day 31", bank.order(0, 1, 5, 31), 4);
        check.due("from the last to the first", bank.order(1, 0, 5, 5), 5);
    }

    /** 'BAD when from and to are not two different accounts' */
    private static void notTwoAccounts(Check check) {
        Twins three = new Twins(check, OrderTest::makeThree);
        int[] noAccounts = {-2, -1, 3, 5, 6, Integer.MIN_VALUE, Integer.MAX_VALUE};
        for (int wrong : noAccounts) {
            three.refused("from " + wrong, bank -> bank.order(wrong, 0, 1, 1), DayEndBank.BAD);
            three.refused("to " + wrong, bank -> bank.order(0, wrong, 1, 1), DayEndBank.BAD);
            three.refused("both " + wrong, bank -> bank.order(wrong, wrong, 1, 1), DayEndBank.BAD);
        }
        three.refused("0 to itself", bank -> bank.order(0, 0, 1, 1), DayEndBank.BAD);
        three.refused("2 to itself", bank -> bank.order(2, 2, 1, 1), DayEndBank.BAD);
    }

    /** 'of one currency' */
    private static void twoCurrencies(Check check) {
        Twins three = new Twins(check, OrderTest::makeThree);
        three.refused("0 to 2", bank -> bank.order(0, 2, 1, 1), DayEndBank.BAD);
        three.refused("2 to 1", bank -> bank.order(2, 1, 1, 1), DayEndBank.BAD);
    }

    /** 'amount is not 1 .. 1000000' */
    private static void wrongAmounts(Check check) {
        Twins three = new Twins(check, OrderTest::makeThree);
        int[] wrongAmounts = {0, -1, 1000001, Integer.MIN_VALUE, Integer.MAX_VALUE};
        for (int wrong : wrongAmounts) {
            three.refused("amount " + wrong, bank -> bank.order(0, 1, wrong, 1), DayEndBank.BAD);
        }
    }

    /** 'or day is not 1 .. 31' */
    private static void wrongDays(Check check) {
        Twins three = new Twins(check, OrderTest::makeThree);
        int[] wrongDays = {0, -1, 32, Integer.MIN_VALUE, Integer.MAX_VALUE};
        for (int wrong : wrongDays) {
            three.refused("day " + wrong, bank -> bank.order(0, 1, 1, wrong), DayEndBank.BAD);
        }
    }

    /** 'FULL when there are 6' */
    private static void fullWhenThereAreSix(Check check) {
        Twins full = new Twins(check, Machine::makeFull);
        full.refused("the seventh", bank -> bank.order(0, 1, 1, 1), DayEndBank.FULL);
        full.refused("the seventh, of another account", bank -> bank.order(4, 5, 1, 1), DayEndBank.FULL);
        DayEndBank bank = new DayEndBank();
        makeThree(bank);
        for (int i = 1; i < 6; i++) {
            check.due("order number " + i, bank.order(0, 1, 1, 1), i);
        }
        check.due("the seventh", bank.order(0, 1, 1, 1), DayEndBank.FULL);
        Machine.runDays(bank, 40);
        check.due("those that were paid count too", bank.order(0, 1, 1, 1), DayEndBank.FULL);
    }

    private static void neverPoor(Check check) {
        DayEndBank bank = new DayEndBank();
        bank.open(0, 0, 0, 0);
        bank.open(0, 0, 0, 0);
        check.due("more than is available", bank.order(0, 1, 1000000, 1), 0);
    }

    private static void busyWhileADayEndIsOpen(Check check) {
        Twins open = new Twins(check, OrderTest::makeThreeAndLeaveOpen);
        open.refused("order", bank -> bank.order(0, 1, 1, 1), DayEndBank.BUSY);
        DayEndBank bank = new DayEndBank();
        makeThreeAndLeaveOpen(bank);
        bank.run(1);
        check.due("no longer, when it is closed", bank.order(0, 1, 1, 1), 1);
    }

    private static void stoppedAtEachWrite(Check check) {
        Twins three = new Twins(check, OrderTest::makeThree);
        three.stoppedAtEachWrite("order", bank -> bank.order(0, 1, 9, 5), 2);
    }

    private static void stoppedOrderIsGone(Check check) {
        DayEndBank bank = new DayEndBank();
        makeThree(bank);
        bank.fuse(1);
        check.due("order", bank.order(0, 1, 9, 5), DayEndBank.STOPPED);
        bank.restart();
        check.due("its number is free", bank.order(0, 1, 4, 5), 1);
        bank.run(5);
        check.due("only the second is there", bank.balance(1), 4);
    }
}
