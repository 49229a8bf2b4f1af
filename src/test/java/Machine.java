/** Brings the machine of a bank into the states that a test needs. */
final class Machine {
    private Machine() {
    }

    static void stop(DayEndBank bank) {
        bank.fuse(0);
        bank.run(1);
    }

    /** Leaves a day end open; the bank must have an account, and room for a line in the log. */
    static void leaveDayEndOpen(DayEndBank bank) {
        bank.fuse(1);
        bank.run(1);
        bank.restart();
    }

    static void runDays(DayEndBank bank, int days) {
        for (int left = days; left > 0; left -= 31) {
            bank.run(Math.min(left, 31));
        }
    }
}
