/** Promise 1: a new object, each clause by itself, and that objects don't touch one another. */
public final class NewObjectTest {
    public static void main(String[] args) {
        Check check = new Check();
        eachReading(check, new DayEndBank());
        noAccounts(check);
        noHolds(check);
        noOrders(check);
        noRestDays(check);
        todayIsTheFirstDate(check);
        noDayEndIsOpen(check);
        emptyLog(check);
        noFuse(check);
        notStopped(check);
        untouchedByOthers(check);
        check.end();
    }

    /** 'today 0', 'all sums 0', 'the log empty', 'no writes made', as the reading calls show it. */
    private static void eachReading(Check check, DayEndBank bank) {
        check.due("today()", bank.today(), 0);
        check.due("writes()", bank.writes(), 0);
        check.due("lines()", bank.lines(), 0);
        for (int i = -1; i <= 6; i++) {
            check.due("balance(" + i + ")", bank.balance(i), 0);
            check.due("available(" + i + ")", bank.available(i), 0);
            check.due("accrued(" + i + ")", bank.accrued(i), 0);
            check.due("mark(" + i + ")", bank.mark(i), 0);
            check.due("missed(" + i + ")", bank.missed(i), 0);
        }
        for (int currency = -1; currency <= 3; currency++) {
            for (int which = -1; which <= 3; which++) {
                check.due("ledger(" + currency + ", " + which + ")", bank.ledger(currency, which), 0);
            }
        }
        check.due("count(0, 0, 1)", bank.count(0, 0, 1), 1);
        check.due("reading wrote nothing", bank.writes(), 0);
    }

    private static void noAccounts(Check check) {
        DayEndBank bank = new DayEndBank();
        for (int i = 0; i < 6; i++) {
            check.due("pay(-1, " + i + ", 1)", bank.pay(-1, i, 1), DayEndBank.BAD);
            check.due("pay(" + i + ", -1, 1)", bank.pay(i, -1, 1), DayEndBank.BAD);
            check.due("hold(" + i + ", 1)", bank.hold(i, 1), DayEndBank.BAD);
            check.due("order(" + i + ", ..)", bank.order(i, (i + 1) % 6, 1, 1), DayEndBank.BAD);
        }
        check.due("a day end has no step", bank.run(1), 1);
        check.due("only begin and close", bank.writes(), 2);
        check.due("the first account", bank.open(0, 0, 0, 0), 0);
    }

    private static void noHolds(Check check) {
        DayEndBank bank = new DayEndBank();
        for (int i = 0; i < 8; i++) {
            check.due("release(" + i + ")", bank.release(i), DayEndBank.BAD);
            check.due("settle(" + i + ", -1, 1)", bank.settle(i, -1, 1), DayEndBank.BAD);
        }
        bank.open(0, 0, 100, 0);
        check.due("all is available", bank.available(0), 100);
        check.due("the first hold", bank.hold(0, 1), 0);
    }

    private static void noOrders(Check check) {
        DayEndBank bank = new DayEndBank();
        bank.open(0, 0, 100, 0);
        bank.open(0, 0, 100, 0);
        check.due("a month", bank.run(31), 31);
        check.due("nothing was paid", bank.balance(0), 0);
        check.due("the first order", bank.order(0, 1, 1, 1), 0);
    }

    private static void noRestDays(Check check) {
        for (int date = 31; date < 120; date++) {
            int due = date % 7 < 2 ? DayEndBank.BAD : 0;
            check.due("rest(" + date + ")", new DayEndBank().rest(date), due);
        }
        DayEndBank bank = new DayEndBank();
        for (int i = 0; i < 8; i++) {
            check.due("rest day number " + i, bank.rest(31 + 7 * i), 0);
        }
    }

    /** 'TODAY is 0 at first.' */
    private static void todayIsTheFirstDate(Check check) {
        DayEndBank bank = new DayEndBank();
        bank.open(0, 0, 0, 0);
        check.due("the mark is the date before", bank.mark(0), -1);
        bank.run(1);
        check.due("the first day end is for date 0", bank.mark(0), 0);
        check.due("today()", bank.today(), 1);
    }

    private static void noDayEndIsOpen(Check check) {
        check.due("open(0, 0, 0, 0)", new DayEndBank().open(0, 0, 0, 0), 0);
        check.due("rest(31)", new DayEndBank().rest(31), 0);
        DayEndBank bank = new DayEndBank();
        bank.run(1);
        check.due("a begin and a close", bank.writes(), 2);
    }

    private static void emptyLog(Check check) {
        DayEndBank bank = new DayEndBank();
        check.due("twelve day ends", bank.run(12), 12);
        check.due("there was room for 24 lines", bank.lines(), 24);
        check.due("so no checkpoint was made", bank.writes(), 24);
        DayEndBank stopped = new DayEndBank();
        stopped.fuse(0);
        stopped.run(1);
        check.due("no transactions in it", stopped.restart(), 0);
    }

    private static void noFuse(Check check) {
        DayEndBank bank = new DayEndBank();
        for (int i = 0; i < 9; i++) {
            check.due("run(31)", bank.run(31), 31);
        }
        check.due("more writes than any fuse has", bank.writes() > 501, true);
    }

    private static void notStopped(Check check) {
        check.due("restart()", new DayEndBank().restart(), DayEndBank.BAD);
        check.due("fuse(-1)", new DayEndBank().fuse(-1), true);
    }

    private static void untouchedByOthers(Check check) {
        DayEndBank used = new DayEndBank();
        DayEndBank other = new DayEndBank();
        Machine.makeFull(used);
        used.run(31);
        Machine.leaveDayEndOpen(used);
        Machine.stop(used);
        eachReading(check, other);
        eachReading(check, new DayEndBank());
        check.due("open", other.open(0, 0, 0, 0), 0);
        check.due("rest(37)", other.rest(37), 0);
        check.due("run(31)", other.run(31), 31);
    }
}
