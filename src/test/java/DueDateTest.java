import java.time.LocalDate;
import java.time.YearMonth;
import java.util.ArrayList;
import java.util.Arrays;
import java.util.HashSet;
import java.util.List;
import java.util.Set;

/** Terms: the date at which an order is due. Date 0 is a rest day, and so is date 1; 2 is none. */
public final class DueDateTest {
    private static final LocalDate FIRST = LocalDate.of(2000, 1, 1);
    private static final int[] NONE = {};

    public static void main(String[] args) {
        Check check = new Check();
        theDateWithItsDay(check);
        lastDateOfAShorterMonth(check);
        nextDateThatIsNoRestDay(check);
        nextDateIsTheLastOfTheMonth(check);
        lastDateBeforeIfTheNextIsInAnotherMonth(check);
        lastDateBeforeSkipsMadeRestDays(check);
        acrossTheYear(check);
        restDayMadeAfterTheOrder(check);
        orderMadeAtItsDate(check);
        onceInEveryMonth(check);
        for (int startMonths = 0; startMonths <= 60; startMonths += 6) {
            for (int day = 1; day <= 31; day += 6) {
                byTheCalendar(check, startMonths, day);
            }
        }
        check.end();
    }

    /** The dates from .. to at which an order of a day is paid, when these rest days are made. */
    private static List<Integer> paidDates(int day, int[] restDays, int from, int to) {
        DayEndBank bank = new DayEndBank();
        bank.open(0, 0, 1000, 0);
        bank.open(0, 0, 0, 0);
        for (int date : restDays) {
            bank.rest(date);
        }
        Machine.runTo(bank, from);
        bank.order(0, 1, 1, day);
        List<Integer> dates = new ArrayList<>();
        long before = bank.balance(1);
        for (int date = from; date <= to; date++) {
            bank.run(1);
            long after = bank.balance(1);
            if (after != before) {
                dates.add(date);
            }
            before = after;
        }
        return dates;
    }

    /** The order is watched from the first to the last date of the month that the due date is in. */
    private static void isDue(Check check, int day, int[] restDays, int due) {
        LocalDate first = FIRST.plusDays(due).withDayOfMonth(1);
        int from = dateOf(first);
        int to = dateOf(first.plusMonths(1)) - 1;
        List<Integer> dates = paidDates(day, restDays, from, to);
        String name = "day " + day + " of " + YearMonth.from(first) + " with rest days " + Arrays.toString(restDays);
        check.due(name + ": number of dates", dates.size(), 1);
        check.due(name, dates.isEmpty() ? -1 : dates.get(0), due);
    }

    /** 'the date with its day in that month' */
    private static void theDateWithItsDay(Check check) {
        isDue(check, 3, NONE, 2);
        isDue(check, 7, NONE, 6);
        isDue(check, 31, NONE, 30);
        isDue(check, 1, NONE, 31);
        isDue(check, 1, NONE, 60);
        isDue(check, 29, NONE, 59);
        isDue(check, 31, NONE, 90);
    }

    /** 'or the last date of the month if the month is shorter': 59 is February 29th of 2000. */
    private static void lastDateOfAShorterMonth(Check check) {
        isDue(check, 30, NONE, 59);
        isDue(check, 31, NONE, 59);
        isDue(check, 31, NONE, 181);
        isDue(check, 30, NONE, 181);
        isDue(check, 28, NONE, 424);
        isDue(check, 29, NONE, 424);
        isDue(check, 30, NONE, 424);
        isDue(check, 31, NONE, 424);
    }

    /** 'if that date is a rest day, the next date that is none' */
    private static void nextDateThatIsNoRestDay(Check check) {
        isDue(check, 1, NONE, 2);
        isDue(check, 2, NONE, 2);
        isDue(check, 8, NONE, 9);
        isDue(check, 9, NONE, 9);
        isDue(check, 7, new int[] {37}, 38);
        isDue(check, 7, new int[] {38, 37}, 39);
        isDue(check, 8, new int[] {37}, 38);
        isDue(check, 7, new int[] {37, 38, 39, 40, 41}, 44);
        isDue(check, 11, new int[] {41}, 44);
        isDue(check, 12, new int[] {44}, 45);
        isDue(check, 1, new int[] {60}, 61);
    }

    /** July 2000 ends with date 212; 210 and 211 are rest days, so 212 is next and in the month yet. */
    private static void nextDateIsTheLastOfTheMonth(Check check) {
        isDue(check, 29, NONE, 30);
        isDue(check, 30, NONE, 30);
        isDue(check, 29, NONE, 212);
        isDue(check, 30, NONE, 212);
        isDue(check, 31, NONE, 212);
        isDue(check, 27, new int[] {208, 209}, 212);
        isDue(check, 28, new int[] {58}, 59);
    }

    /** 'but if that next date lies in another month, then the last date before that is no rest day' */
    private static void lastDateBeforeIfTheNextIsInAnotherMonth(Check check) {
        isDue(check, 29, NONE, 118);
        isDue(check, 30, NONE, 118);
        isDue(check, 31, NONE, 118);
        isDue(check, 28, NONE, 118);
        isDue(check, 30, NONE, 272);
        isDue(check, 31, NONE, 272);
        isDue(check, 31, new int[] {90}, 89);
        isDue(check, 29, new int[] {59}, 58);
        isDue(check, 31, new int[] {59}, 58);
        isDue(check, 29, new int[] {212}, 209);
        isDue(check, 31, new int[] {212}, 209);
    }

    private static void lastDateBeforeSkipsMadeRestDays(Check check) {
        isDue(check, 30, new int[] {118}, 117);
        isDue(check, 31, new int[] {118, 117}, 116);
        isDue(check, 31, new int[] {89, 90}, 88);
        isDue(check, 31, new int[] {86, 87, 88, 89, 90}, 83);
        isDue(check, 27, new int[] {86, 87, 88, 89, 90}, 83);
        isDue(check, 26, new int[] {86, 87, 88, 89, 90}, 83);
        isDue(check, 25, new int[] {86, 87, 88, 89, 90}, 83);
        isDue(check, 24, new int[] {86, 87, 88, 89, 90}, 83);
        isDue(check, 31, new int[] {81, 82, 83, 86, 87, 88, 89, 90}, 80);
        isDue(check, 22, new int[] {81, 82, 83, 86, 87, 88, 89, 90}, 80);
        isDue(check, 21, new int[] {81, 82, 83, 86, 87, 88, 89, 90}, 80);
    }

    /** December 2000 ends with date 365; 364 and 365 are rest days, 366 is in another year. */
    private static void acrossTheYear(Check check) {
        isDue(check, 30, NONE, 363);
        isDue(check, 31, NONE, 363);
        isDue(check, 31, new int[] {363}, 362);
        isDue(check, 1, NONE, 366);
        isDue(check, 1, new int[] {366}, 367);
        isDue(check, 31, NONE, 396);
    }

    private static void restDayMadeAfterTheOrder(Check check) {
        DayEndBank bank = new DayEndBank();
        bank.open(0, 0, 100, 0);
        bank.open(0, 0, 0, 0);
        bank.order(0, 1, 5, 7);
        bank.run(30);
        bank.rest(37);
        bank.run(8);
        check.due("not at the rest day", bank.balance(1), 5);
        bank.run(1);
        check.due("at the date after it", bank.balance(1), 10);
    }

    private static void orderMadeAtItsDate(Check check) {
        check.due("at its date", paidDates(5, NONE, 4, 34).equals(List.of(4)), true);
        check.due("a date later", paidDates(5, NONE, 5, 40).equals(List.of(37)), true);
        check.due("at a date that it was moved to", paidDates(8, NONE, 9, 20).equals(List.of(9)), true);
    }

    /** 'An order is DUE at one date of every month' */
    private static void onceInEveryMonth(Check check) {
        List<Integer> due = List.of(30, 59, 90, 118, 151, 181, 212);
        check.due("day 31 in seven months", paidDates(31, NONE, 0, 212).equals(due), true);
        List<Integer> early = List.of(2, 31, 60, 93, 121, 152, 184);
        check.due("day 1 in seven months", paidDates(1, NONE, 0, 212).equals(early), true);
    }

    private static void byTheCalendar(Check check, int startMonths, int firstDay) {
        DayEndBank bank = new DayEndBank();
        bank.open(0, 0, 1000000, 0);
        bank.open(0, 0, 0, 0);
        int orders = 0;
        for (int day = firstDay; day < firstDay + 6 && day <= 31; day++) {
            check.due("order of day " + day, bank.order(0, 1, 1 << orders, day), orders);
            orders++;
        }
        Set<Integer> made = makeRestDays(bank, startMonths);
        int start = dateOf(FIRST.plusMonths(startMonths));
        Machine.runTo(bank, start);
        long paid = bank.balance(1);
        for (int date = start; date < start + 190; date++) {
            bank.run(1);
            for (int i = 0; i < orders; i++) {
                paid += dueDate(firstDay + i, date, made) == date ? 1 << i : 0;
            }
            check.due("paid at date " + date + " by days from " + firstDay, bank.balance(1), paid);
        }
    }

    /** Around the end of one month, so that orders are moved on, and moved back, over many dates. */
    private static Set<Integer> makeRestDays(DayEndBank bank, int startMonths) {
        Set<Integer> made = new HashSet<>();
        int end = dateOf(FIRST.plusMonths(startMonths + 3));
        for (int date = end - 9; date <= end + 1; date++) {
            if (bank.rest(date) == 0) {
                made.add(date);
            }
        }
        return made;
    }

    private static int dateOf(LocalDate day) {
        return (int) (day.toEpochDay() - FIRST.toEpochDay());
    }

    private static int dueDate(int day, int date, Set<Integer> made) {
        YearMonth month = YearMonth.from(FIRST.plusDays(date));
        LocalDate wanted = month.atDay(Math.min(day, month.lengthOfMonth()));
        LocalDate found = wanted;
        while (isRest(dateOf(found), made)) {
            found = found.plusDays(1);
        }
        if (!YearMonth.from(found).equals(month)) {
            found = wanted;
            while (isRest(dateOf(found), made)) {
                found = found.minusDays(1);
            }
        }
        return dateOf(found);
    }

    private static boolean isRest(int date, Set<Integer> made) {
        return date % 7 < 2 || made.contains(date);
    }
}
