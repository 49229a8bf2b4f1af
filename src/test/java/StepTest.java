/** Terms: the steps of a day end. All orders here are due at date 2, or at dates that are named. */
public final class StepTest {
    public static void main(String[] args) {
        Check check = new Check();
        notMoreThanIsAvailable(check);
        limitAndHoldsCount(check);
        availableAfterEarlierOrders(check);
        ordersInTheOrderOfTheirNumbers(check);
        accountsInTheOrderOfTheirNumbers(check);
        missesGrowByOne(check);
        ordersBeforeTheAccrual(check);
        ordersBeforeTheInterest(check);
        interestBeforeTheNextStep(check);
        onlyOrdersOfTheAccount(check);
        marksBecomeToday(check);
        ordersMoveNoCash(check);
        check.end();
    }

    private static DayEndBank bankOf(int accounts) {
        DayEndBank bank = new DayEndBank();
        for (int i = 0; i < accounts; i++) {
            bank.open(0, 1, 0, 0);
        }
        return bank;
    }

    /** 'if the amount is not more than what is available then, it is paid .. otherwise the order's misses grow' */
    private static void notMoreThanIsAvailable(Check check) {
        DayEndBank just = bankOf(2);
        just.pay(-1, 0, 70);
        just.order(0, 1, 70, 1);
        just.run(3);
        check.due("just what is available is paid", just.balance(1), 70);
        check.due("and not missed", just.missed(0), 0);
        DayEndBank less = bankOf(2);
        less.pay(-1, 0, 69);
        less.order(0, 1, 70, 1);
        less.run(3);
        check.due("one more is not paid", less.balance(1), 0);
        check.due("not in part", less.balance(0), 69);
        check.due("and missed", less.missed(0), 1);
    }

    private static void limitAndHoldsCount(Check check) {
        DayEndBank bank = new DayEndBank();
        bank.open(0, 1, 50, 0);
        bank.open(0, 1, 0, 0);
        bank.pay(-1, 0, 100);
        bank.hold(0, 20);
        bank.hold(0, 10);
        bank.order(0, 1, 121, 1);
        bank.order(0, 1, 120, 1);
        bank.run(3);
        check.due("100 + 50 - 30, and one more", bank.missed(0), 1);
        check.due("100 + 50 - 30", bank.missed(1), 0);
        check.due("balance(0)", bank.balance(0), -20);
        check.due("available(0)", bank.available(0), 0);
        check.due("the holds stand", bank.release(1), 0);
    }

    private static void availableAfterEarlierOrders(Check check) {
        DayEndBank bank = bankOf(2);
        bank.pay(-1, 0, 100);
        bank.order(0, 1, 60, 1);
        bank.order(0, 1, 41, 1);
        bank.order(0, 1, 40, 1);
        bank.order(0, 1, 1, 1);
        bank.run(3);
        check.due("60 of 100", bank.missed(0), 0);
        check.due("41 of 40", bank.missed(1), 1);
        check.due("40 of 40", bank.missed(2), 0);
        check.due("1 of none", bank.missed(3), 1);
        check.due("balance(1)", bank.balance(1), 100);
    }

    /** 'first its orders that are due today, in the order of their numbers', not of their days */
    private static void ordersInTheOrderOfTheirNumbers(Check check) {
        DayEndBank bank = bankOf(3);
        bank.pay(-1, 0, 10);
        bank.order(0, 1, 10, 3);
        bank.order(0, 2, 10, 1);
        bank.run(3);
        check.due("the first made is paid", bank.balance(1), 10);
        check.due("the second is missed", bank.missed(1), 1);
    }

    /** 'then there is a STEP for every account .. in the order of their numbers' */
    private static void accountsInTheOrderOfTheirNumbers(Check check) {
        DayEndBank bank = bankOf(3);
        bank.pay(-1, 0, 10);
        bank.order(2, 0, 10, 1);
        bank.order(1, 2, 10, 1);
        bank.order(0, 1, 10, 1);
        bank.run(3);
        check.due("from 0 over 1 and 2 to 0 again", bank.balance(0), 10);
        check.due("missed(0)", bank.missed(0), 0);
        check.due("missed(1)", bank.missed(1), 0);
        DayEndBank late = bankOf(2);
        late.pay(-1, 1, 10);
        late.order(0, 1, 10, 1);
        late.order(1, 0, 10, 1);
        late.run(3);
        check.due("account 0 has nothing at its step", late.missed(0), 1);
        check.due("it is paid afterwards", late.balance(0), 10);
    }

    private static void missesGrowByOne(Check check) {
        DayEndBank bank = bankOf(2);
        bank.order(0, 1, 10, 15);
        int[] missedByMonth = {1, 2, 3};
        for (int misses : missedByMonth) {
            bank.run(31);
            check.due("after month " + misses, bank.missed(0), misses);
        }
        bank.pay(-1, 0, 10);
        bank.run(31);
        check.due("a paid order keeps its misses", bank.missed(0), 3);
        check.due("only one was paid", bank.balance(1), 10);
        bank.run(31);
        check.due("and may miss again", bank.missed(0), 4);
    }

    /** 'then its accrual grows': by what the orders of its own step, and of those before, have left */
    private static void ordersBeforeTheAccrual(Check check) {
        DayEndBank bank = new DayEndBank();
        for (int i = 0; i < 3; i++) {
            bank.open(0, 1, 0, 1000);
        }
        bank.run(2);
        bank.pay(-1, 1, 100);
        bank.order(1, 0, 30, 1);
        bank.order(1, 2, 20, 1);
        bank.run(1);
        check.due("account 0 had its step before", bank.accrued(0), 0);
        check.due("account 1 has paid 50", bank.accrued(1), 50000);
        check.due("account 2 was paid 20", bank.accrued(2), 20000);
        bank.run(1);
        check.due("account 0 at the next date", bank.accrued(0), 30000);
    }

    /** Date 30 is the last of January: 9000000 of accrual then make 2 units, after the orders. */
    private static void ordersBeforeTheInterest(Check check) {
        DayEndBank bank = new DayEndBank();
        bank.run(30);
        bank.open(0, 1, 0, 1000);
        bank.open(0, 1, 0, 0);
        bank.pay(-1, 0, 9000);
        bank.order(0, 1, 9001, 31);
        bank.run(1);
        check.due("the interest comes too late", bank.missed(0), 1);
        check.due("balance(0)", bank.balance(0), 9002);
        DayEndBank paid = new DayEndBank();
        paid.run(30);
        paid.open(0, 1, 0, 1000);
        paid.open(0, 1, 0, 0);
        paid.pay(-1, 0, 9000);
        paid.order(0, 1, 9000, 31);
        paid.run(1);
        check.due("what was paid bears no interest", paid.balance(0), 0);
        check.due("accrued(0)", paid.accrued(0), 0);
    }

    /** The accrual of the last date is in its month's interest, and the next grows from the new balance. */
    private static void interestBeforeTheNextStep(Check check) {
        DayEndBank bank = new DayEndBank();
        bank.run(30);
        bank.open(0, 1, 0, 1000);
        bank.pay(-1, 0, 3600);
        bank.run(1);
        check.due("the last date counts", bank.balance(0), 3601);
        check.due("nothing is left", bank.accrued(0), 0);
        bank.run(1);
        check.due("the next date", bank.accrued(0), 3601000);
    }

    private static void onlyOrdersOfTheAccount(Check check) {
        DayEndBank bank = bankOf(3);
        bank.pay(-1, 0, 50);
        bank.pay(-1, 1, 50);
        bank.order(1, 2, 30, 1);
        bank.run(3);
        check.due("paid once, not at every step", bank.balance(2), 30);
        check.due("balance(1)", bank.balance(1), 20);
        check.due("balance(0)", bank.balance(0), 50);
    }

    /** 'then its mark becomes today'; 'then it is CLOSED: today grows by 1' */
    private static void marksBecomeToday(Check check) {
        DayEndBank bank = bankOf(6);
        for (int date = 0; date < 40; date++) {
            check.due("today()", bank.today(), date);
            bank.run(1);
            check.due("mark of the first", bank.mark(0), date);
            check.due("mark of the last", bank.mark(5), date);
        }
    }

    private static void ordersMoveNoCash(Check check) {
        DayEndBank bank = bankOf(2);
        bank.pay(-1, 0, 70);
        int[] days = {1, 15, 31};
        for (int day : days) {
            bank.order(0, 1, 20, day);
        }
        bank.run(31);
        check.due("all were paid", bank.balance(1), 60);
        check.due("cash", bank.ledger(0, 0), 70);
        check.due("interest", bank.ledger(0, 1), 0);
        check.due("customers", bank.ledger(0, 2), 70);
    }
}
