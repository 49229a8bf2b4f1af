import java.time.LocalDate;
import java.time.YearMonth;
import java.util.HashSet;
import java.util.Set;

/** Promise 7: order, and at which dates orders are due. */
public final class OrderTest {
    private static final LocalDate FIRST = LocalDate.of(2000, 1, 1);

    public static void main(String[] args) {
        Check check = new Check();
        numbers(check);
        wrongNumbers(check);
        codesInTheirOrder(check);
        stopInOrder(check);
        dueDatesByHand(check);
        for (int startMonths = 0; startMonths <= 60; startMonths += 6) {
            for (int day = 1; day <= 31; day += 6) {
                dueDatesByTheCalendar(check, startMonths, day);
            }
        }
        check.end();
    }

    private static DayEndBank bankOfThree() {
        DayEndBank bank = new DayEndBank();
        bank.open(0, 0, 1000, 0);
        bank.open(0, 0, 0, 0);
        bank.open(1, 0, 0, 0);
        return bank;
    }

    private static void numbers(Check check) {
        DayEndBank bank = bankOfThree();
        check.due("least numbers", bank.order(0, 1, 1, 1), 0);
        check.due("a line and an end", bank.writes(), 8);
        check.due("greatest numbers", bank.order(1, 0, 1000000, 31), 1);
        for (int i = 2; i < 6; i++) {
            check.due("order number " + i, bank.order(0, 1, 1, 1), i);
        }
        check.due("the seventh", bank.order(0, 1, 1, 1), DayEndBank.FULL);
        check.due("no money moved", bank.balance(0), 0);
        check.due("no misses", bank.missed(1), 0);
    }

    private static void wrongNumbers(Check check) {
        DayEndBank bank = bankOfThree();
        int writes = bank.writes();
        int[] noAccounts = {-2, -1, 3, 6, Integer.MIN_VALUE, Integer.MAX_VALUE};
        for (int wrong : noAccounts) {
            check.due("from " + wrong, bank.order(wrong, 0, 1, 1), DayEndBank.BAD);
            check.due("to " + wrong, bank.order(0, wrong, 1, 1), DayEndBank.BAD);
        }
        check.due("to itself", bank.order(0, 0, 1, 1), DayEndBank.BAD);
        check.due("two currencies", bank.order(0, 2, 1, 1), DayEndBank.BAD);
        int[] wrongAmounts = {0, -1, 1000001, Integer.MIN_VALUE, Integer.MAX_VALUE};
        for (int wrong : wrongAmounts) {
            check.due("amount " + wrong, bank.order(0, 1, wrong, 1), DayEndBank.BAD);
        }
        int[] wrongDays = {0, -1, 32, Integer.MIN_VALUE, Integer.MAX_VALUE};
        for (int wrong : wrongDays) {
            check.due("day " + wrong, bank.order(0, 1, 1, wrong), DayEndBank.BAD);
        }
        check.due("nothing was written", bank.writes(), writes);
        check.due("nothing was made", bank.order(0, 1, 1, 1), 0);
    }

    private static void codesInTheirOrder(Check check) {
        DayEndBank bank = bankOfThree();
        for (int i = 0; i < 6; i++) {
            bank.order(1, 0, 5, 3);
        }
        check.due("BAD before FULL", bank.order(1, 0, 5, 32), DayEndBank.BAD);
        Machine.leaveDayEndOpen(bank);
        check.due("BUSY before BAD", bank.order(1, 0, 5, 32), DayEndBank.BUSY);
        check.due("BUSY before FULL", bank.order(1, 0, 5, 3), DayEndBank.BUSY);
        Machine.stop(bank);
        check.due("STOPPED before BUSY", bank.order(1, 0, 5, 32), DayEndBank.STOPPED);
    }

    private static void stopInOrder(Check check) {
        for (int fuse = 0; fuse < 2; fuse++) {
            DayEndBank bank = bankOfThree();
            bank.fuse(fuse);
            check.due("order with fuse " + fuse, bank.order(0, 1, 9, 5), DayEndBank.STOPPED);
            bank.restart();
            check.due("its number is free", bank.order(0, 1, 4, 5), 0);
            bank.run(5);
            check.due("only the second is there", bank.balance(1), 4);
        }
    }

    /** In April 2000 the 29th and the 30th are rest days: dates 119 and 120; date 118 is none. */
    private static void dueDatesByHand(Check check) {
        DayEndBank bank = bankOfThree();
        bank.order(0, 1, 1, 29);
        bank.order(0, 1, 10, 30);
        bank.order(0, 1, 100, 31);
        bank.order(0, 1, 2, 1);
        bank.run(2);
        check.due("the first is moved on from date 0", bank.balance(1), 0);
        bank.run(1);
        check.due("to date 2", bank.balance(1), 2);
        Machine.runDays(bank, 113);
        check.due("today()", bank.today(), 116);
        check.due("three months of it", bank.balance(1), 3 * 111 + 4 * 2);
        bank.run(2);
        check.due("up to date 117", bank.balance(1), 3 * 111 + 4 * 2);
        bank.run(1);
        check.due("all three at date 118", bank.balance(1), 4 * 111 + 4 * 2);
        bank.run(2);
        check.due("not at 119 and 120", bank.balance(1), 4 * 111 + 4 * 2);
        bank.run(1);
        check.due("the first of May", bank.balance(1), 4 * 111 + 5 * 2);
    }

    private static void dueDatesByTheCalendar(Check check, int startMonths, int firstDay) {
        DayEndBank bank = new DayEndBank();
        bank.open(0, 0, 1000000, 0);
        bank.open(0, 0, 0, 0);
        int orders = 0;
        for (int day = firstDay; day < firstDay + 6 && day <= 31; day++) {
            check.due("order of day " + day, bank.order(0, 1, 1 << orders, day), orders);
            orders++;
        }
        Set<Integer> made = makeRestDays(bank, startMonths);
        int start = dateOf(FIRST.plusMonths(startMonths));
        Machine.runDays(bank, start);
        long paid = bank.balance(1);
        for (int date = start; date < start + 190; date++) {
            bank.run(1);
            for (int i = 0; i < orders; i++) {
                paid += dueDate(firstDay + i, date, made) == date ? 1 << i : 0;
            }
            check.due("paid at date " + date + " by days from " + firstDay, bank.balance(1), paid);
        }
    }

    /** Around the end of one month, so that orders are moved on, and moved back, over many dates. */
    private static Set<Integer> makeRestDays(DayEndBank bank, int startMonths) {
        Set<Integer> made = new HashSet<>();
        int end = dateOf(FIRST.plusMonths(startMonths + 3));
        for (int date = end - 9; date <= end + 1; date++) {
            if (bank.rest(date) == 0) {
                made.add(date);
            }
        }
        return made;
    }

    private static int dateOf(LocalDate day) {
        return (int) (day.toEpochDay() - FIRST.toEpochDay());
    }

    private static int dueDate(int day, int date, Set<Integer> made) {
        YearMonth month = YearMonth.from(FIRST.plusDays(date));
        LocalDate wanted = month.atDay(Math.min(day, month.lengthOfMonth()));
        LocalDate found = wanted;
        while (isRest(dateOf(found), made)) {
            found = found.plusDays(1);
        }
        if (!YearMonth.from(found).equals(month)) {
            found = wanted;
            while (isRest(dateOf(found), made)) {
                found = found.minusDays(1);
            }
        }
        return dateOf(found);
    }

    private static boolean isRest(int date, Set<Integer> made) {
        return date % 7 < 2 || made.contains(date);
    }
}
