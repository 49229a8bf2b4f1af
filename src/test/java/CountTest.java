import java.time.LocalDate;

/** Promise 19: count, and the day count of Terms. */
public final class CountTest {
    private static final int LAST = 99999;
    private static final LocalDate FIRST = LocalDate.of(2000, 1, 1);

    public static void main(String[] args) {
        Check check = new Check();
        fromIsTo(check);
        firstAndLastDate(check);
        wrongBases(check);
        wrongDates(check);
        daysBetween(check);
        monthsOfThirtyDays(check);
        firstDay31(check);
        lastDay31BehindThirty(check);
        lastDay31BehindAnEarlierDay(check);
        februaryIsAsItIs(check);
        centuries(check);
        changesNothing(check);
        byTheCalendar(check);
        check.end();
    }

    private static int dateOf(int year, int month, int day) {
        return (int) (LocalDate.of(year, month, day).toEpochDay() - FIRST.toEpochDay());
    }

    private static void fromIsTo(Check check) {
        DayEndBank bank = new DayEndBank();
        int[] dates = {0, 1, 29, 30, 31, 58, 59, 60, 365, 366, 424, 36583, 99998, LAST};
        for (int date : dates) {
            for (int basis = 0; basis < 3; basis++) {
                check.due("count(" + basis + ", " + date + ", " + date + ")", bank.count(basis, date, date), 0);
            }
        }
    }

    /** Date 99999 is October 15th of 2273. */
    private static void firstAndLastDate(Check check) {
        DayEndBank bank = new DayEndBank();
        check.due("basis 0", bank.count(0, 0, LAST), 99999);
        check.due("basis 1", bank.count(1, 0, LAST), 99999);
        check.due("basis 2", bank.count(2, 0, LAST), 360 * 273 + 30 * 9 + 14);
        check.due("from the first", bank.count(2, 0, 1), 1);
        check.due("to the last", bank.count(2, LAST - 1, LAST), 1);
    }

    /** '-1 when basis is not 0 .. 2' */
    private static void wrongBases(Check check) {
        DayEndBank bank = new DayEndBank();
        int[] wrongBases = {-1, 3, Integer.MIN_VALUE, Integer.MAX_VALUE};
        for (int wrong : wrongBases) {
            check.due("basis " + wrong, bank.count(wrong, 0, 1), -1);
            check.due("basis " + wrong + ", no days", bank.count(wrong, 5, 5), -1);
        }
    }

    /** 'or not 0 <= from <= to <= 99999' */
    private static void wrongDates(Check check) {
        DayEndBank bank = new DayEndBank();
        for (int basis = 0; basis < 3; basis++) {
            check.due("from -1", bank.count(basis, -1, 1), -1);
            check.due("from -1 to -1", bank.count(basis, -1, -1), -1);
            check.due("to 100000", bank.count(basis, 0, LAST + 1), -1);
            check.due("from 100000 to 100000", bank.count(basis, LAST + 1, LAST + 1), -1);
            check.due("from after to by one", bank.count(basis, 6, 5), -1);
            check.due("from a 31st after its 30th", bank.count(basis, 30, 29), -1);
            check.due("from the last to the first", bank.count(basis, LAST, 0), -1);
            check.due("extremes", bank.count(basis, Integer.MIN_VALUE, Integer.MAX_VALUE), -1);
            check.due("extremes, turned", bank.count(basis, Integer.MAX_VALUE, Integer.MIN_VALUE), -1);
            check.due("the least", bank.count(basis, Integer.MIN_VALUE, 0), -1);
            check.due("the greatest", bank.count(basis, 0, Integer.MAX_VALUE), -1);
        }
    }

    /** 'for basis 0 .. and basis 1 .. the number of days between them' */
    private static void daysBetween(Check check) {
        DayEndBank bank = new DayEndBank();
        for (int basis = 0; basis < 2; basis++) {
            check.due("30th to 31st", bank.count(basis, 29, 30), 1);
            check.due("31st to 1st", bank.count(basis, 30, 31), 1);
            check.due("February 28th to March 1st of 2000", bank.count(basis, 58, 60), 2);
            check.due("a leap year", bank.count(basis, 0, 366), 366);
            check.due("another year", bank.count(basis, 366, 731), 365);
        }
    }

    /** '360 * (y2 - y1) + 30 * (m2 - m1) + (d2 - d1)' */
    private static void monthsOfThirtyDays(Check check) {
        DayEndBank bank = new DayEndBank();
        check.due("a day", bank.count(2, 4, 5), 1);
        check.due("a month", bank.count(2, 0, 31), 30);
        check.due("a short month", bank.count(2, 31, 60), 30);
        check.due("a year", bank.count(2, 0, 366), 360);
        check.due("December 1st to January 1st", bank.count(2, 335, 366), 30);
        check.due("December 31st to January 1st", bank.count(2, 365, 366), 1);
        check.due("a later month, an earlier day", bank.count(2, 14, 31), 16);
        check.due("a later year, an earlier month", bank.count(2, 335, 400), 63);
        check.due("30th to 1st", bank.count(2, 120, 121), 1);
    }

    /** 'd1 = 31 is taken as 30' */
    private static void firstDay31(Check check) {
        DayEndBank bank = new DayEndBank();
        check.due("January 31st to February 1st", bank.count(2, 30, 31), 1);
        check.due("January 31st to February 29th", bank.count(2, 30, 59), 29);
        check.due("January 31st to March 30th", bank.count(2, 30, 89), 60);
        check.due("January 30th to March 30th", bank.count(2, 29, 89), 60);
        check.due("January 29th to March 30th", bank.count(2, 28, 89), 61);
    }

    /** 'and then, if d1 (as it is taken) is 30, d2 = 31 is taken as 30 too' */
    private static void lastDay31BehindThirty(Check check) {
        DayEndBank bank = new DayEndBank();
        check.due("January 30th to January 31st", bank.count(2, 29, 30), 0);
        check.due("January 30th to March 31st", bank.count(2, 29, 90), 60);
        check.due("January 31st to March 31st", bank.count(2, 30, 90), 60);
        check.due("April 30th to May 31st", bank.count(2, 120, 151), 30);
        check.due("January 31st to December 31st", bank.count(2, 30, 365), 330);
        check.due("January 31st to January 31st of 2001", bank.count(2, 30, 396), 360);
    }

    private static void lastDay31BehindAnEarlierDay(Check check) {
        DayEndBank bank = new DayEndBank();
        check.due("January 29th to January 31st", bank.count(2, 28, 30), 2);
        check.due("January 1st to January 31st", bank.count(2, 0, 30), 30);
        check.due("January 1st to March 31st", bank.count(2, 0, 90), 90);
        check.due("February 29th to March 31st", bank.count(2, 59, 90), 32);
        check.due("February 28th to March 31st of 2001", bank.count(2, 424, 455), 33);
    }

    private static void februaryIsAsItIs(Check check) {
        DayEndBank bank = new DayEndBank();
        check.due("February 28th to 29th of 2000", bank.count(2, 58, 59), 1);
        check.due("February 29th to March 1st of 2000", bank.count(2, 59, 60), 2);
        check.due("February 28th to March 1st of 2000", bank.count(2, 58, 60), 3);
        check.due("February 28th to March 1st of 2001", bank.count(2, 424, 425), 3);
        check.due("February 29th of 2000 to February 28th of 2001", bank.count(2, 59, 424), 359);
        check.due("January 30th to February 29th", bank.count(2, 29, 59), 29);
    }

    /** 'of the Gregorian calendar': 2000 is a leap year, 2100 and 2200 are none, 2096 and 2104 are. */
    private static void centuries(Check check) {
        DayEndBank bank = new DayEndBank();
        check.due("2100 has no February 29th", dateOf(2100, 3, 1) - dateOf(2100, 2, 28), 1);
        int[] noLeapYears = {2001, 2100, 2200};
        for (int year : noLeapYears) {
            int date = dateOf(year, 2, 28);
            check.due("February 28th of " + year, bank.count(2, date, date + 1), 3);
            check.due("the year " + year, bank.count(2, dateOf(year, 1, 1), dateOf(year, 1, 1) + 365), 360);
        }
        int[] leapYears = {2000, 2004, 2096, 2104, 2196, 2204};
        for (int year : leapYears) {
            int date = dateOf(year, 2, 28);
            check.due("February 28th of " + year, bank.count(2, date, date + 1), 1);
            check.due("February 29th of " + year, bank.count(2, date + 1, date + 2), 2);
        }
    }

    private static void changesNothing(Check check) {
        Twins full = new Twins(check, Machine::makeFull);
        full.refused("count of a wrong basis", bank -> bank.count(3, 0, 1), -1);
        full.refused("count backwards", bank -> bank.count(0, 1, 0), -1);
        full.refused("count", bank -> bank.count(0, 0, 1), 1);
    }

    private static void byTheCalendar(Check check) {
        for (int start = 0; start < LAST; start += 100) {
            hundredDates(check, new DayEndBank(), start);
        }
    }

    private static void hundredDates(Check check, DayEndBank bank, int start) {
        for (int from = start; from < Math.min(start + 100, LAST); from++) {
            int far = from + (int) (from * 7919L % (LAST - from + 1));
            check.due("count(2, " + from + ", next)", bank.count(2, from, from + 1), byMonths(from, from + 1));
            check.due("count(2, " + from + ", " + far + ")", bank.count(2, from, far), byMonths(from, far));
            check.due("count(0, " + from + ", " + far + ")", bank.count(0, from, far), far - from);
            check.due("count(1, " + from + ", " + far + ")", bank.count(1, from, far), far - from);
        }
    }

    private static int byMonths(int from, int to) {
        LocalDate first = FIRST.plusDays(from);
        LocalDate last = FIRST.plusDays(to);
        int firstDay = first.getDayOfMonth() == 31 ? 30 : first.getDayOfMonth();
        int lastDay = last.getDayOfMonth() == 31 && firstDay == 30 ? 30 : last.getDayOfMonth();
        return 360 * (last.getYear() - first.getYear())
                + 30 * (last.getMonthValue() - first.getMonthValue()) + lastDay - firstDay;
    }
}
