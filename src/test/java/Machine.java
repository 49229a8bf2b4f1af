/** Brings a bank into the states that a test needs. */
final class Machine {
    private Machine() {
    }

    static void stop(DayEndBank bank) {
        bank.fuse(0);
        bank.run(1);
    }

    /** Leaves a day end open; the bank must have an account, and room for a line in the log. */
    static void leaveDayEndOpen(DayEndBank bank) {
        bank.fuse(1);
        bank.run(1);
        bank.restart();
    }

    static void runDays(DayEndBank bank, int days) {
        for (int left = days; left > 0; left -= 31) {
            bank.run(Math.min(left, 31));
        }
    }

    /** Brings today to a date that is not before it. */
    static void runTo(DayEndBank bank, int date) {
        runDays(bank, date - bank.today());
    }

    /** Brings an account without limit to a balance, which may be more than one payment can move. */
    static void payIn(DayEndBank bank, int account, int amount) {
        for (int left = amount; left > 0; left -= 1000000) {
            bank.pay(-1, account, Math.min(left, 1000000));
        }
    }

    static void payOut(DayEndBank bank, int account, int amount) {
        for (int left = amount; left > 0; left -= 1000000) {
            bank.pay(account, -1, Math.min(left, 1000000));
        }
    }

    /** A bank that can have no more of anything, and whose account 0 has nothing available. */
    static void makeFull(DayEndBank bank) {
        for (int i = 0; i < 6; i++) {
            bank.open(i == 2 ? 1 : 0, i % 3, 0, 0);
        }
        bank.pay(-1, 0, 8);
        for (int i = 0; i < 8; i++) {
            bank.hold(0, 1);
        }
        for (int i = 0; i < 6; i++) {
            bank.order(0, 1, 1, 1);
        }
        for (int i = 0; i < 8; i++) {
            bank.rest(37 + 7 * i);
        }
    }
}
