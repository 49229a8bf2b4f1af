/** Promise 8: rest. */
public final class RestTest {
    public static void main(String[] args) {
        Check check = new Check();
        onlyAnEndIsWritten(check);
        outOfRange(check);
        greatestDates(check);
        alreadyRestDays(check);
        notInALaterMonth(check);
        laterMonthOfWhichYear(check);
        fullWhenEightWereMade(check);
        busyWhileADayEndIsOpen(check);
        stoppedAtEachWrite(check);
        check.end();
    }

    private static void makeTwo(DayEndBank bank) {
        bank.open(0, 0, 100, 0);
        bank.open(0, 0, 0, 0);
        bank.order(0, 1, 5, 7);
        bank.rest(37);
    }

    private static void makeTwoAndLeaveOpen(DayEndBank bank) {
        makeTwo(bank);
        Machine.leaveDayEndOpen(bank);
    }

    private static void onlyAnEndIsWritten(Check check) {
        DayEndBank bank = new DayEndBank();
        check.due("rest(37)", bank.rest(37), 0);
        check.due("writes()", bank.writes(), 1);
        check.due("lines()", bank.lines(), 1);
        check.due("today stays", bank.today(), 0);
    }

    /** 'BAD when date is not 0 .. 20000': 20001 to 20005 are no rest days by themselves. */
    private static void outOfRange(Check check) {
        Twins two = new Twins(check, RestTest::makeTwo);
        int[] wrongDates = {-1, -5, 20001, 20002, 20005, Integer.MIN_VALUE, Integer.MAX_VALUE};
        for (int wrong : wrongDates) {
            two.refused("date " + wrong, bank -> bank.rest(wrong), DayEndBank.BAD);
        }
    }

    private static void greatestDates(Check check) {
        DayEndBank bank = new DayEndBank();
        check.due("20000 % 7 is 1", bank.rest(20000), DayEndBank.BAD);
        check.due("19999 % 7 is 0", bank.rest(19999), DayEndBank.BAD);
        check.due("19998 is the greatest that can be", bank.rest(19998), 0);
        check.due("19997", bank.rest(19997), 0);
    }

    /** 'is a rest day': 'date % 7 is 0 or 1, or if rest() made it one' */
    private static void alreadyRestDays(Check check) {
        Twins two = new Twins(check, RestTest::makeTwo);
        two.refused("35 % 7 is 0", bank -> bank.rest(35), DayEndBank.BAD);
        two.refused("36 % 7 is 1", bank -> bank.rest(36), DayEndBank.BAD);
        two.refused("37 was made one", bank -> bank.rest(37), DayEndBank.BAD);
        DayEndBank bank = new DayEndBank();
        makeTwo(bank);
        for (int date = 38; date <= 41; date++) {
            check.due(date + " is none", bank.rest(date), 0);
            check.due(date + " is one now", bank.rest(date), DayEndBank.BAD);
        }
        check.due("34 % 7 is 6", bank.rest(34), 0);
        bank.run(20);
        check.due("it stays one", bank.rest(34), DayEndBank.BAD);
    }

    /** 'does not lie in a later month than today's' */
    private static void notInALaterMonth(Check check) {
        Twins two = new Twins(check, RestTest::makeTwo);
        two.refused("today", bank -> bank.rest(0), DayEndBank.BAD);
        two.refused("a date of January", bank -> bank.rest(16), DayEndBank.BAD);
        two.refused("the last of January", bank -> bank.rest(30), DayEndBank.BAD);
        DayEndBank bank = new DayEndBank();
        check.due("the first of February", bank.rest(31), 0);
        bank.run(30);
        check.due("at the last of January", bank.rest(32), 0);
        bank.run(1);
        check.due("at the first of February", bank.rest(33), DayEndBank.BAD);
        check.due("the last of February", bank.rest(59), DayEndBank.BAD);
        check.due("the first of March", bank.rest(60), 0);
        check.due("the month before", bank.rest(2), DayEndBank.BAD);
        check.due("the last of the month before", bank.rest(30), DayEndBank.BAD);
    }

    /** '(of the same or a later year)': date 366 is the first of January 2001. */
    private static void laterMonthOfWhichYear(Check check) {
        DayEndBank bank = new DayEndBank();
        Machine.runTo(bank, 365);
        check.due("in December, a date of December", bank.rest(363), DayEndBank.BAD);
        check.due("in December, the first of January", bank.rest(366), 0);
        bank.run(1);
        check.due("in January, the last December", bank.rest(340), DayEndBank.BAD);
        check.due("in January, the last February", bank.rest(33), DayEndBank.BAD);
        check.due("in January, the last January", bank.rest(2), DayEndBank.BAD);
        check.due("in January, this January", bank.rest(396), DayEndBank.BAD);
        check.due("in January, this February", bank.rest(397), 0);
        check.due("in January, the next January", bank.rest(366 + 368), 0);
        check.due("in January, this December", bank.rest(366 + 340), 0);
        Machine.runTo(bank, 425);
        check.due("in March, January of the next year", bank.rest(366 + 366), 0);
        check.due("in March, February of the year before", bank.rest(45), DayEndBank.BAD);
        check.due("in March, April of the year before", bank.rest(100), DayEndBank.BAD);
    }

    /** 'FULL when 8 were made' */
    private static void fullWhenEightWereMade(Check check) {
        DayEndBank bank = new DayEndBank();
        for (int i = 0; i < 8; i++) {
            check.due("rest day " + i, bank.rest(37 + 7 * i), 0);
        }
        check.due("the ninth", bank.rest(38), DayEndBank.FULL);
        for (int i = 0; i < 8; i++) {
            check.due("rest day " + i + " is one", bank.rest(37 + 7 * i), DayEndBank.BAD);
        }
        Machine.runTo(bank, 200);
        check.due("those that are over count too", bank.rest(303), DayEndBank.FULL);
        new Twins(check, Machine::makeFull).refused("the ninth", full -> full.rest(38), DayEndBank.FULL);
    }

    private static void busyWhileADayEndIsOpen(Check check) {
        Twins open = new Twins(check, RestTest::makeTwoAndLeaveOpen);
        open.refused("rest", bank -> bank.rest(38), DayEndBank.BUSY);
        DayEndBank bank = new DayEndBank();
        makeTwoAndLeaveOpen(bank);
        bank.run(1);
        check.due("no longer, when it is closed", bank.rest(38), 0);
    }

    private static void stoppedAtEachWrite(Check check) {
        Twins two = new Twins(check, RestTest::makeTwo);
        two.stoppedAtEachWrite("rest", bank -> bank.rest(39), 1);
        DayEndBank bank = new DayEndBank();
        bank.fuse(0);
        check.due("rest with fuse 0", bank.rest(37), DayEndBank.STOPPED);
        bank.restart();
        check.due("nothing stays of it", bank.rest(37), 0);
        check.due("now it is one", bank.rest(37), DayEndBank.BAD);
    }
}
