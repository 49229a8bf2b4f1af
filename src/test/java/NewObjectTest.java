/** Promise 1: a new object, and that the calls on one object don't touch another. */
public final class NewObjectTest {
    public static void main(String[] args) {
        Check check = new Check();
        isNew(check, new DayEndBank());
        DayEndBank used = new DayEndBank();
        used.open(0, 0, 10, 10);
        used.pay(-1, 0, 100);
        used.run(3);
        used.fuse(0);
        used.run(1);
        isNew(check, new DayEndBank());
        check.end();
    }

    private static void isNew(Check check, DayEndBank bank) {
        check.due("today()", bank.today(), 0);
        check.due("writes()", bank.writes(), 0);
        check.due("lines()", bank.lines(), 0);
        check.due("restart() of a running machine", bank.restart(), DayEndBank.BAD);
        for (int i = -1; i <= 8; i++) {
            check.due("balance(" + i + ")", bank.balance(i), 0);
            check.due("available(" + i + ")", bank.available(i), 0);
            check.due("accrued(" + i + ")", bank.accrued(i), 0);
            check.due("mark(" + i + ")", bank.mark(i), 0);
            check.due("missed(" + i + ")", bank.missed(i), 0);
            check.due("release(" + i + ")", bank.release(i), DayEndBank.BAD);
            check.due("hold(" + i + ", 1)", bank.hold(i, 1), DayEndBank.BAD);
            check.due("pay(-1, " + i + ", 1)", bank.pay(-1, i, 1), DayEndBank.BAD);
        }
        for (int currency = 0; currency < 3; currency++) {
            for (int which = 0; which < 3; which++) {
                check.due("ledger(" + currency + ", " + which + ")", bank.ledger(currency, which), 0);
            }
        }
        for (int i = 0; i < 8; i++) {
            check.due("rest() number " + i, bank.rest(31 + 7 * i), 0);
        }
        check.due("rest() number 8", bank.rest(31 + 7 * 8), DayEndBank.FULL);
        check.due("no fuse: run(31)", bank.run(31), 31);
        check.due("open(0, 0, 0, 0)", bank.open(0, 0, 0, 0), 0);
    }
}
