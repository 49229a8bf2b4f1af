import java.time.LocalDate;

/** Terms: the accrual of a step, and the interest at the last date of a month. */
public final class InterestTest {
    private static final LocalDate FIRST = LocalDate.of(2000, 1, 1);
    private static final int LAST_OF_JANUARY = 30;

    public static void main(String[] args) {
        Check check = new Check();
        accrualOfEachBasis(check);
        accrualOfBasis2AtTheEndsOfMonths(check);
        accrualBelowZero(check);
        halvesOfTheYear360(check, 1);
        halvesOfTheYear360(check, 2);
        halvesOfTheYear365(check);
        halvesBelowZeroOfTheYear360(check, 1);
        halvesBelowZeroOfTheYear360(check, 2);
        halvesBelowZeroOfTheYear365(check);
        whatIsLeftIsCarriedOn(check);
        nothingWithoutRateOrBalance(check);
        onlyAtTheLastDateOfAMonth(check);
        debtMayPassTheLimit(check);
        sumsOfTheLedger(check);
        check.end();
    }

    /** 'its accrual grows by balance * rate * the day count of its basis from today to the next date' */
    private static void accrualOfEachBasis(Check check) {
        DayEndBank bank = new DayEndBank();
        for (int basis = 0; basis < 3; basis++) {
            bank.open(basis, basis, 0, 100 + basis);
            bank.pay(-1, basis, 1000);
        }
        bank.run(1);
        check.due("one date of basis 0", bank.accrued(0), 1000L * 100);
        check.due("one date of basis 1", bank.accrued(1), 1000L * 101);
        check.due("one date of basis 2", bank.accrued(2), 1000L * 102);
        bank.run(28);
        check.due("29 dates of basis 0", bank.accrued(0), 1000L * 100 * 29);
        check.due("29 dates of basis 1", bank.accrued(1), 1000L * 101 * 29);
        check.due("29 dates of basis 2", bank.accrued(2), 1000L * 102 * 29);
    }

    /** 0 from a 30th to a 31st, 1 from a 31st, 2 from February 29th, 3 from February 28th of 2001. */
    private static void accrualOfBasis2AtTheEndsOfMonths(Check check) {
        check.due("January 29th", accrualOfDate(28), 1);
        check.due("January 30th", accrualOfDate(29), 0);
        check.due("January 31st", accrualOfDate(30), 1);
        check.due("February 28th", accrualOfDate(58), 1);
        check.due("February 29th", accrualOfDate(59), 2);
        check.due("March 30th", accrualOfDate(89), 0);
        check.due("April 30th", accrualOfDate(120), 1);
        check.due("December 30th", accrualOfDate(364), 0);
        check.due("December 31st", accrualOfDate(365), 1);
        check.due("February 28th of 2001", accrualOfDate(424), 3);
    }

    /** With a balance and a rate of 1 the accrual counts days, and is far too small for interest. */
    private static long accrualOfDate(int date) {
        DayEndBank bank = new DayEndBank();
        Machine.runTo(bank, date);
        bank.open(0, 2, 0, 1);
        bank.pay(-1, 0, 1);
        bank.run(1);
        return bank.accrued(0);
    }

    private static void accrualBelowZero(Check check) {
        DayEndBank bank = new DayEndBank();
        bank.open(0, 0, 1000000, 1000);
        bank.pay(0, -1, 1000000);
        bank.run(2);
        check.due("a debt", bank.accrued(0), -2000000000L);
        bank.pay(-1, 0, 1000000);
        bank.run(1);
        check.due("no balance", bank.accrued(0), -2000000000L);
        bank.pay(-1, 0, 3);
        bank.run(1);
        check.due("a small balance", bank.accrued(0), -2000000000L + 3000);
    }

    /** The step of January 31st counts one day: its accrual is balance * rate, whatever the basis. */
    private static void isInterest(Check check, int basis, int rate, int balance, int interest) {
        DayEndBank bank = new DayEndBank();
        Machine.runTo(bank, LAST_OF_JANUARY);
        bank.open(1, basis, 1000000, rate);
        Machine.payIn(bank, 0, balance);
        Machine.payOut(bank, 0, -balance);
        String name = "basis " + basis + ", rate " + rate + ", balance " + balance + ": ";
        check.due(name + "before", bank.balance(0), balance);
        bank.run(1);
        long unit = 10000L * (basis == 0 ? 365 : 360);
        check.due(name + "interest", bank.ledger(1, 1), interest);
        check.due(name + "balance", bank.balance(0), balance + interest);
        check.due(name + "accrual", bank.accrued(0), (long) balance * rate - interest * unit);
    }

    /** 'q is accrual / (10000 * year) rounded to the nearest whole number, a half to the even one' */
    private static void halvesOfTheYear360(Check check, int basis) {
        isInterest(check, basis, 1, 1799999, 0);
        isInterest(check, basis, 1, 1800000, 0);
        isInterest(check, basis, 1, 1800001, 1);
        isInterest(check, basis, 1, 3599999, 1);
        isInterest(check, basis, 1, 3600000, 1);
        isInterest(check, basis, 1, 3600001, 1);
        isInterest(check, basis, 1, 5399999, 1);
        isInterest(check, basis, 1, 5400000, 2);
        isInterest(check, basis, 1, 5400001, 2);
        isInterest(check, basis, 1, 8999999, 2);
        isInterest(check, basis, 1, 9000000, 2);
        isInterest(check, basis, 1, 9000001, 3);
        isInterest(check, basis, 1000, 12600, 4);
        isInterest(check, basis, 1000, 16200, 4);
    }

    private static void halvesOfTheYear365(Check check) {
        isInterest(check, 0, 1, 1800001, 0);
        isInterest(check, 0, 1, 1824999, 0);
        isInterest(check, 0, 1, 1825000, 0);
        isInterest(check, 0, 1, 1825001, 1);
        isInterest(check, 0, 1, 3650000, 1);
        isInterest(check, 0, 1, 5474999, 1);
        isInterest(check, 0, 1, 5475000, 2);
        isInterest(check, 0, 1, 5475001, 2);
        isInterest(check, 0, 1, 9125000, 2);
        isInterest(check, 0, 1, 9125001, 3);
    }

    /** The same below 0: a limit of 1000000 lets a debt, and so an accrual, be that large. */
    private static void halvesBelowZeroOfTheYear360(Check check, int basis) {
        isInterest(check, basis, 45, -39999, 0);
        isInterest(check, basis, 45, -40000, 0);
        isInterest(check, basis, 45, -40001, -1);
        isInterest(check, basis, 45, -80000, -1);
        isInterest(check, basis, 45, -119999, -1);
        isInterest(check, basis, 45, -120000, -2);
        isInterest(check, basis, 45, -120001, -2);
        isInterest(check, basis, 45, -199999, -2);
        isInterest(check, basis, 45, -200000, -2);
        isInterest(check, basis, 45, -200001, -3);
        isInterest(check, basis, 1, -1000000, 0);
    }

    private static void halvesBelowZeroOfTheYear365(Check check) {
        isInterest(check, 0, 25, -72999, 0);
        isInterest(check, 0, 25, -73000, 0);
        isInterest(check, 0, 25, -73001, -1);
        isInterest(check, 0, 25, -146000, -1);
        isInterest(check, 0, 25, -218999, -1);
        isInterest(check, 0, 25, -219000, -2);
        isInterest(check, 0, 25, -219001, -2);
        isInterest(check, 0, 25, -365000, -2);
        isInterest(check, 0, 25, -365001, -3);
        isInterest(check, 0, 1000, -1000000, -274);
    }

    /** 'the accrual falls by q * 10000 * year', and is not emptied. */
    private static void whatIsLeftIsCarriedOn(Check check) {
        DayEndBank bank = new DayEndBank();
        Machine.runTo(bank, LAST_OF_JANUARY);
        bank.open(0, 1, 0, 1000);
        bank.pay(-1, 0, 1200);
        bank.run(1);
        check.due("a third of a unit is no interest", bank.balance(0), 1200);
        check.due("but stays", bank.accrued(0), 1200000);
        bank.pay(0, -1, 1200);
        bank.run(28);
        bank.pay(-1, 0, 1200);
        bank.run(1);
        check.due("two thirds are 1", bank.balance(0), 1201);
        check.due("a third is missing", bank.accrued(0), -1200000);
        bank.pay(0, -1, 1201);
        bank.run(30);
        bank.pay(-1, 0, 1200);
        bank.run(1);
        check.due("three thirds were 1", bank.balance(0), 1200);
        check.due("nothing is left", bank.accrued(0), 0);
    }

    private static void nothingWithoutRateOrBalance(Check check) {
        isInterest(check, 0, 0, 1000000, 0);
        isInterest(check, 1, 0, -1000000, 0);
        isInterest(check, 2, 1000, 0, 0);
    }

    /** 'if today is the last date of its month', through leap years and others. */
    private static void onlyAtTheLastDateOfAMonth(Check check) {
        DayEndBank bank = new DayEndBank();
        bank.open(0, 0, 0, 1000);
        bank.pay(-1, 0, 1000000);
        LocalDate month = FIRST;
        for (int i = 0; i < 100; i++) {
            long before = bank.balance(0);
            bank.run(month.lengthOfMonth() - 1);
            check.due("before the last date of " + month, bank.balance(0), before);
            bank.run(1);
            check.due("at the last date of " + month, bank.balance(0) > before, true);
            month = month.plusMonths(1);
        }
    }

    /** A balance 'may become negative', by interest even beyond the limit. */
    private static void debtMayPassTheLimit(Check check) {
        DayEndBank bank = new DayEndBank();
        bank.open(0, 1, 3600, 1000);
        bank.pay(0, -1, 3600);
        bank.run(31);
        check.due("31 units of interest", bank.balance(0), -3631);
        check.due("less than nothing is available", bank.available(0), -31);
        check.due("1 is too much", bank.pay(0, -1, 1), DayEndBank.POOR);
        check.due("and cannot be held", bank.hold(0, 1), DayEndBank.POOR);
        bank.pay(-1, 0, 31);
        check.due("nothing is available", bank.available(0), 0);
        check.due("1 is too much yet", bank.pay(0, -1, 1), DayEndBank.POOR);
        bank.pay(-1, 0, 1);
        check.due("now it is not", bank.pay(0, -1, 1), 0);
    }

    /** 'INTEREST (all those q of its accounts)'; 'CASH + INTEREST is CUSTOMERS' */
    private static void sumsOfTheLedger(Check check) {
        DayEndBank bank = new DayEndBank();
        bank.open(0, 1, 0, 1000);
        bank.open(2, 1, 3600, 1000);
        bank.open(0, 1, 1000, 1000);
        bank.pay(-1, 0, 36000);
        bank.pay(1, -1, 3600);
        bank.pay(2, -1, 720);
        bank.run(31);
        check.due("310 less 6 of currency 0", bank.ledger(0, 1), 304);
        check.due("cash of currency 0", bank.ledger(0, 0), 36000 - 720);
        check.due("customers of currency 0", bank.ledger(0, 2), 36000 - 720 + 304);
        check.due("no interest of currency 1", bank.ledger(1, 1), 0);
        check.due("interest of currency 2 is below 0", bank.ledger(2, 1), -31);
        check.due("customers of currency 2", bank.ledger(2, 2), -3631);
    }
}
