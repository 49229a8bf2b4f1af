/** Promise 6: settle. */
public final class SettleTest {
    public static void main(String[] args) {
        Check check = new Check();
        settlements(check);
        whateverIsAvailable(check);
        wrongNumbers(check);
        codesInTheirOrder(check);
        stopInSettle(check);
        check.end();
    }

    private static DayEndBank bankOfThree() {
        DayEndBank bank = new DayEndBank();
        bank.open(0, 0, 0, 0);
        bank.open(0, 0, 0, 0);
        bank.open(1, 0, 0, 0);
        bank.pay(-1, 0, 1000);
        bank.hold(0, 300);
        bank.hold(0, 200);
        return bank;
    }

    private static void settlements(Check check) {
        DayEndBank bank = bankOfThree();
        int writes = bank.writes();
        check.due("a part, to an account", bank.settle(0, 1, 100), 0);
        check.due("two lines and an end", bank.writes(), writes + 3);
        check.due("balance(0)", bank.balance(0), 900);
        check.due("balance(1)", bank.balance(1), 100);
        check.due("the whole hold has ended", bank.available(0), 700);
        check.due("it ended", bank.settle(0, 1, 100), DayEndBank.BAD);
        check.due("all of it, to cash", bank.settle(1, -1, 200), 0);
        check.due("one line and an end", bank.writes(), writes + 5);
        check.due("balance(0)", bank.balance(0), 700);
        check.due("available(0)", bank.available(0), 700);
        check.due("cash", bank.ledger(0, 0), 800);
        check.due("customers", bank.ledger(0, 2), 800);
    }

    /** Interest on a debt takes what is available below 0; a hold can be settled all the same. */
    private static void whateverIsAvailable(Check check) {
        DayEndBank bank = new DayEndBank();
        bank.open(0, 1, 1000000, 1000);
        bank.open(0, 1, 0, 0);
        bank.pay(0, -1, 900000);
        bank.hold(0, 100000);
        check.due("run(31)", bank.run(31), 31);
        check.due("balance(0)", bank.balance(0), -907750);
        check.due("available(0)", bank.available(0), -7750);
        check.due("pay is POOR", bank.pay(0, 1, 1), DayEndBank.POOR);
        check.due("settle is not", bank.settle(0, 1, 100000), 0);
        check.due("balance(0)", bank.balance(0), -1007750);
        check.due("available(0)", bank.available(0), -7750);
    }

    private static void wrongNumbers(Check check) {
        DayEndBank bank = bankOfThree();
        int writes = bank.writes();
        int[] noHolds = {-1, 2, 7, 8, Integer.MIN_VALUE, Integer.MAX_VALUE};
        for (int wrong : noHolds) {
            check.due("hold " + wrong, bank.settle(wrong, 1, 1), DayEndBank.BAD);
        }
        int[] wrongPayees = {-2, 0, 2, 3, 6, Integer.MIN_VALUE, Integer.MAX_VALUE};
        for (int wrong : wrongPayees) {
            check.due("to " + wrong, bank.settle(0, wrong, 1), DayEndBank.BAD);
        }
        int[] wrongAmounts = {0, -1, 301, 1000000, Integer.MIN_VALUE, Integer.MAX_VALUE};
        for (int wrong : wrongAmounts) {
            check.due("amount " + wrong, bank.settle(0, 1, wrong), DayEndBank.BAD);
        }
        check.due("amount of the other hold", bank.settle(1, 1, 201), DayEndBank.BAD);
        check.due("nothing was written", bank.writes(), writes);
        check.due("both holds stand", bank.available(0), 500);
    }

    private static void codesInTheirOrder(Check check) {
        DayEndBank bank = bankOfThree();
        Machine.leaveDayEndOpen(bank);
        check.due("BUSY before BAD", bank.settle(9, 1, 1), DayEndBank.BUSY);
        check.due("BUSY", bank.settle(0, 1, 1), DayEndBank.BUSY);
        Machine.stop(bank);
        check.due("STOPPED before BUSY", bank.settle(0, 1, 1), DayEndBank.STOPPED);
    }

    private static void stopInSettle(Check check) {
        for (int fuse = 0; fuse < 3; fuse++) {
            DayEndBank bank = bankOfThree();
            bank.fuse(fuse);
            check.due("settle with fuse " + fuse, bank.settle(0, 1, 250), DayEndBank.STOPPED);
            bank.restart();
            check.due("balance(0)", bank.balance(0), 1000);
            check.due("balance(1)", bank.balance(1), 0);
            check.due("the hold stands", bank.available(0), 500);
            check.due("settle again", bank.settle(0, 1, 250), 0);
            check.due("available(0)", bank.available(0), 550);
        }
    }
}
