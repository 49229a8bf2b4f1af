/** Promises 4 and 5: hold and release. */
public final class HoldTest {
    public static void main(String[] args) {
        Check check = new Check();
        numbersAndAvailable(check);
        leastFreeNumber(check);
        wrongNumbers(check);
        codesInTheirOrder(check);
        stopInHoldAndRelease(check);
        check.end();
    }

    private static DayEndBank bankOfTwo() {
        DayEndBank bank = new DayEndBank();
        bank.open(0, 0, 100, 0);
        bank.open(1, 0, 1000000, 0);
        bank.pay(-1, 0, 900);
        return bank;
    }

    private static void numbersAndAvailable(Check check) {
        DayEndBank bank = bankOfTwo();
        check.due("one more than available", bank.hold(0, 1001), DayEndBank.POOR);
        check.due("all that is available", bank.hold(0, 1000), 0);
        check.due("balance stays", bank.balance(0), 900);
        check.due("available(0)", bank.available(0), 0);
        check.due("one more", bank.hold(0, 1), DayEndBank.POOR);
        check.due("the other account", bank.hold(1, 1000000), 1);
        check.due("available(1)", bank.available(1), 0);
        int writes = bank.writes();
        check.due("release(0)", bank.release(0), 0);
        check.due("a line and an end", bank.writes(), writes + 2);
        check.due("available again", bank.available(0), 1000);
        check.due("balance as it was", bank.balance(0), 900);
        check.due("cash as it was", bank.ledger(0, 0), 900);
        check.due("released twice", bank.release(0), DayEndBank.BAD);
        check.due("no write for a code", bank.writes(), writes + 2);
    }

    private static void leastFreeNumber(Check check) {
        DayEndBank bank = bankOfTwo();
        for (int i = 0; i < 8; i++) {
            check.due("hold number " + i, bank.hold(i % 2, 10 + i), i);
        }
        check.due("the ninth", bank.hold(0, 1), DayEndBank.FULL);
        bank.release(5);
        bank.release(2);
        check.due("the least free", bank.hold(0, 1), 2);
        check.due("then the next", bank.hold(1, 1), 5);
        check.due("then none", bank.hold(1, 1), DayEndBank.FULL);
        check.due("available(0)", bank.available(0), 1000 - 10 - 1 - 14 - 16);
        check.due("available(1)", bank.available(1), 1000000 - 11 - 13 - 1 - 17);
        bank.settle(7, -1, 1);
        check.due("settled numbers are free", bank.hold(0, 1), 7);
    }

    private static void wrongNumbers(Check check) {
        DayEndBank bank = bankOfTwo();
        bank.hold(0, 1);
        int writes = bank.writes();
        int[] noAccounts = {-1, 2, 6, Integer.MIN_VALUE, Integer.MAX_VALUE};
        for (int wrong : noAccounts) {
            check.due("hold on " + wrong, bank.hold(wrong, 1), DayEndBank.BAD);
        }
        int[] wrongAmounts = {0, -1, 1000001, Integer.MIN_VALUE, Integer.MAX_VALUE};
        for (int wrong : wrongAmounts) {
            check.due("hold of " + wrong, bank.hold(1, wrong), DayEndBank.BAD);
        }
        int[] noHolds = {-1, 1, 7, 8, Integer.MIN_VALUE, Integer.MAX_VALUE};
        for (int wrong : noHolds) {
            check.due("release of " + wrong, bank.release(wrong), DayEndBank.BAD);
        }
        check.due("nothing was written", bank.writes(), writes);
        check.due("available(0)", bank.available(0), 999);
    }

    private static void codesInTheirOrder(Check check) {
        DayEndBank bank = bankOfTwo();
        for (int i = 0; i < 8; i++) {
            bank.hold(0, 125);
        }
        check.due("FULL before POOR", bank.hold(0, 1), DayEndBank.FULL);
        check.due("BAD before FULL", bank.hold(0, 0), DayEndBank.BAD);
        check.due("BAD account before FULL", bank.hold(2, 1), DayEndBank.BAD);
        Machine.leaveDayEndOpen(bank);
        check.due("BUSY before BAD", bank.hold(0, 0), DayEndBank.BUSY);
        check.due("release: BUSY before BAD", bank.release(9), DayEndBank.BUSY);
        check.due("release is BUSY", bank.release(0), DayEndBank.BUSY);
        Machine.stop(bank);
        check.due("STOPPED before BUSY", bank.hold(0, 0), DayEndBank.STOPPED);
        check.due("release: STOPPED", bank.release(0), DayEndBank.STOPPED);
        bank.restart();
        bank.run(1);
        check.due("the hold stands yet", bank.release(0), 0);
    }

    private static void stopInHoldAndRelease(Check check) {
        for (int fuse = 0; fuse < 2; fuse++) {
            DayEndBank bank = bankOfTwo();
            bank.fuse(fuse);
            check.due("hold with fuse " + fuse, bank.hold(0, 7), DayEndBank.STOPPED);
            bank.restart();
            check.due("no hold stays", bank.available(0), 1000);
            check.due("hold again", bank.hold(0, 7), 0);
            bank.fuse(fuse);
            check.due("release with fuse " + fuse, bank.release(0), DayEndBank.STOPPED);
            bank.restart();
            check.due("the hold stands yet", bank.available(0), 993);
            check.due("release again", bank.release(0), 0);
        }
    }
}
