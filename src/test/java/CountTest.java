import java.time.LocalDate;

/** Promise 19: count. */
public final class CountTest {
    private static final int LAST = 99999;
    private static final LocalDate FIRST = LocalDate.of(2000, 1, 1);

    public static void main(String[] args) {
        Check check = new Check();
        edges(check);
        wrongNumbers(check);
        byTheCalendar(check);
        check.end();
    }

    private static void edges(Check check) {
        DayEndBank bank = new DayEndBank();
        for (int basis = 0; basis < 3; basis++) {
            check.due("the same date", bank.count(basis, 0, 0), 0);
            check.due("the same last date", bank.count(basis, LAST, LAST), 0);
            check.due("the same 31st", bank.count(basis, 30, 30), 0);
        }
        check.due("30th to 31st", bank.count(2, 29, 30), 0);
        check.due("31st to the 1st", bank.count(2, 30, 31), 1);
        check.due("29th to 31st", bank.count(2, 28, 30), 2);
        check.due("31st of January to 31st of March", bank.count(2, 30, 90), 60);
        check.due("30th of January to 31st of March", bank.count(2, 29, 90), 60);
        check.due("1st of January to 31st of March", bank.count(2, 0, 90), 90);
        check.due("28th of February 2000 to 1st of March", bank.count(2, 58, 60), 3);
        check.due("28th of February 2001 to 1st of March", bank.count(2, 424, 425), 3);
        check.due("28th of February 2100 to 1st of March", bank.count(2, 36583, 36584), 3);
        check.due("a leap year of days", bank.count(0, 0, 366), 366);
        check.due("a leap year of months", bank.count(2, 0, 366), 360);
        check.due("all of it", bank.count(1, 0, LAST), LAST);
        check.due("nothing was written", bank.writes(), 0);
    }

    private static void wrongNumbers(Check check) {
        DayEndBank bank = new DayEndBank();
        int[] wrongBases = {-1, 3, Integer.MIN_VALUE, Integer.MAX_VALUE};
        for (int wrong : wrongBases) {
            check.due("basis " + wrong, bank.count(wrong, 0, 1), -1);
        }
        for (int basis = 0; basis < 3; basis++) {
            check.due("from -1", bank.count(basis, -1, 1), -1);
            check.due("backwards", bank.count(basis, 6, 5), -1);
            check.due("to 100000", bank.count(basis, 0, LAST + 1), -1);
            check.due("both beyond", bank.count(basis, LAST + 1, LAST + 1), -1);
            check.due("both below", bank.count(basis, -1, -1), -1);
            check.due("extremes", bank.count(basis, Integer.MIN_VALUE, Integer.MAX_VALUE), -1);
            check.due("extremes", bank.count(basis, Integer.MAX_VALUE, Integer.MIN_VALUE), -1);
        }
    }

    private static void byTheCalendar(Check check) {
        for (int start = 0; start < LAST; start += 100) {
            hundredDates(check, new DayEndBank(), start);
        }
    }

    private static void hundredDates(Check check, DayEndBank bank, int start) {
        for (int from = start; from < Math.min(start + 100, LAST); from++) {
            int far = from + (int) (from * 7919L % (LAST - from + 1));
            check.due("count(2, " + from + ", next)", bank.count(2, from, from + 1), byMonths(from, from + 1));
            check.due("count(2, " + from + ", " + far + ")", bank.count(2, from, far), byMonths(from, far));
            check.due("count(0, " + from + ", " + far + ")", bank.count(0, from, far), far - from);
            check.due("count(1, " + from + ", " + far + ")", bank.count(1, from, far), far - from);
        }
    }

    private static int byMonths(int from, int to) {
        LocalDate first = FIRST.plusDays(from);
        LocalDate last = FIRST.plusDays(to);
        int firstDay = first.getDayOfMonth() == 31 ? 30 : first.getDayOfMonth();
        int lastDay = last.getDayOfMonth() == 31 && firstDay == 30 ? 30 : last.getDayOfMonth();
        return 360 * (last.getYear() - first.getYear())
                + 30 * (last.getMonthValue() - first.getMonthValue()) + lastDay - firstDay;
    }
}
