/** Promise 8: rest. */
public final class RestTest {
    public static void main(String[] args) {
        Check check = new Check();
        onlyLaterMonths(check);
        wrongNumbers(check);
        atMostEight(check);
        codesInTheirOrder(check);
        movesOrders(check);
        stopInRest(check);
        check.end();
    }

    private static void onlyLaterMonths(Check check) {
        DayEndBank bank = new DayEndBank();
        check.due("the month of today", bank.rest(30), DayEndBank.BAD);
        check.due("the first of the next", bank.rest(31), 0);
        check.due("an end alone", bank.writes(), 1);
        bank.run(30);
        check.due("still January", bank.rest(32), 0);
        bank.run(1);
        check.due("now February", bank.rest(33), DayEndBank.BAD);
        check.due("the last of February", bank.rest(59), DayEndBank.BAD);
        check.due("the first of March", bank.rest(60), 0);
        check.due("the past", bank.rest(2), DayEndBank.BAD);
        Machine.runDays(bank, 335);
        check.due("January 2001", bank.today(), 366);
        check.due("a later month of an earlier year", bank.rest(340), DayEndBank.BAD);
        check.due("the same month of a year before", bank.rest(2), DayEndBank.BAD);
        check.due("the same month of a later year", bank.rest(366 + 368), 0);
        check.due("an earlier day of the month after", bank.rest(397), 0);
    }

    private static void wrongNumbers(Check check) {
        DayEndBank bank = new DayEndBank();
        int[] wrongDates = {-1, 20001, 20003, Integer.MIN_VALUE, Integer.MAX_VALUE};
        for (int wrong : wrongDates) {
            check.due("date " + wrong, bank.rest(wrong), DayEndBank.BAD);
        }
        check.due("date % 7 is 0", bank.rest(35), DayEndBank.BAD);
        check.due("date % 7 is 1", bank.rest(36), DayEndBank.BAD);
        check.due("date % 7 is 2", bank.rest(37), 0);
        check.due("date % 7 is 6", bank.rest(34), 0);
        check.due("twice", bank.rest(37), DayEndBank.BAD);
        check.due("20000 % 7 is 1", bank.rest(20000), DayEndBank.BAD);
        check.due("19998 is the greatest that can be", bank.rest(19998), 0);
        check.due("writes()", bank.writes(), 3);
    }

    private static void atMostEight(Check check) {
        DayEndBank bank = new DayEndBank();
        for (int i = 0; i < 8; i++) {
            check.due("rest day " + i, bank.rest(37 + 7 * i), 0);
        }
        check.due("the ninth", bank.rest(38), DayEndBank.FULL);
        check.due("BAD before FULL", bank.rest(37), DayEndBank.BAD);
        check.due("BAD before FULL", bank.rest(3), DayEndBank.BAD);
        Machine.runDays(bank, 200);
        check.due("those that are over count too", bank.rest(303), DayEndBank.FULL);
    }

    private static void codesInTheirOrder(Check check) {
        DayEndBank bank = new DayEndBank();
        bank.open(0, 0, 0, 0);
        Machine.leaveDayEndOpen(bank);
        check.due("BUSY before BAD", bank.rest(-1), DayEndBank.BUSY);
        check.due("BUSY", bank.rest(37), DayEndBank.BUSY);
        Machine.stop(bank);
        check.due("STOPPED before BUSY", bank.rest(-1), DayEndBank.STOPPED);
    }

    private static void movesOrders(Check check) {
        DayEndBank bank = new DayEndBank();
        bank.open(0, 0, 100, 0);
        bank.open(0, 0, 0, 0);
        bank.order(0, 1, 5, 7);
        bank.rest(37);
        Machine.runDays(bank, 38);
        check.due("not at the rest day", bank.balance(1), 5);
        bank.run(1);
        check.due("at the date after it", bank.balance(1), 10);
    }

    private static void stopInRest(Check check) {
        DayEndBank bank = new DayEndBank();
        bank.fuse(0);
        check.due("rest with fuse 0", bank.rest(37), DayEndBank.STOPPED);
        bank.restart();
        check.due("nothing stays of it", bank.rest(37), 0);
        check.due("now it is one", bank.rest(37), DayEndBank.BAD);
    }
}
