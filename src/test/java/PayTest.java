/** Promise 3: pay. */
public final class PayTest {
    public static void main(String[] args) {
        Check check = new Check();
        payments(check);
        poorEdges(check);
        wrongNumbers(check);
        codesInTheirOrder(check);
        stopInPay(check);
        check.end();
    }

    private static DayEndBank bankOfThree() {
        DayEndBank bank = new DayEndBank();
        bank.open(0, 0, 100, 0);
        bank.open(0, 0, 0, 0);
        bank.open(1, 0, 50, 0);
        return bank;
    }

    private static void payments(Check check) {
        DayEndBank bank = bankOfThree();
        check.due("from cash", bank.pay(-1, 0, 1000000), 0);
        check.due("between accounts", bank.pay(0, 1, 1), 0);
        check.due("to cash", bank.pay(0, -1, 400), 0);
        check.due("into the limit", bank.pay(2, -1, 50), 0);
        check.due("balance(0)", bank.balance(0), 999599);
        check.due("balance(1)", bank.balance(1), 1);
        check.due("balance(2)", bank.balance(2), -50);
        check.due("cash of 0", bank.ledger(0, 0), 999600);
        check.due("cash of 1", bank.ledger(1, 0), -50);
        check.due("customers of 0", bank.ledger(0, 2), 999600);
        check.due("customers of 1", bank.ledger(1, 2), -50);
        check.due("interest of 0", bank.ledger(0, 1), 0);
        check.due("writes()", bank.writes(), 6 + 2 + 3 + 2 + 2);
    }

    private static void poorEdges(Check check) {
        DayEndBank bank = bankOfThree();
        bank.pay(-1, 0, 40);
        bank.hold(0, 30);
        int writes = bank.writes();
        check.due("one more than available", bank.pay(0, 1, 111), DayEndBank.POOR);
        check.due("to cash, one more", bank.pay(0, -1, 111), DayEndBank.POOR);
        check.due("nothing was written", bank.writes(), writes);
        check.due("all that is available", bank.pay(0, 1, 110), 0);
        check.due("balance(0)", bank.balance(0), -70);
        check.due("nothing is available", bank.available(0), 0);
        check.due("one more", bank.pay(0, 1, 1), DayEndBank.POOR);
        check.due("cash is never poor", bank.pay(-1, 1, 1000000), 0);
    }

    private static void wrongNumbers(Check check) {
        DayEndBank bank = bankOfThree();
        bank.pay(-1, 0, 1000);
        bank.pay(-1, 2, 1000);
        int writes = bank.writes();
        int[] noAccounts = {-2, 3, 6, Integer.MIN_VALUE, Integer.MAX_VALUE};
        for (int wrong : noAccounts) {
            check.due("from " + wrong, bank.pay(wrong, 0, 1), DayEndBank.BAD);
            check.due("to " + wrong, bank.pay(0, wrong, 1), DayEndBank.BAD);
            check.due("cash to " + wrong, bank.pay(-1, wrong, 1), DayEndBank.BAD);
            check.due(wrong + " to cash", bank.pay(wrong, -1, 1), DayEndBank.BAD);
        }
        check.due("cash to cash", bank.pay(-1, -1, 1), DayEndBank.BAD);
        check.due("to itself", bank.pay(0, 0, 1), DayEndBank.BAD);
        check.due("two currencies", bank.pay(0, 2, 1), DayEndBank.BAD);
        check.due("two currencies, back", bank.pay(2, 0, 1), DayEndBank.BAD);
        int[] wrongAmounts = {0, -1, 1000001, Integer.MIN_VALUE, Integer.MAX_VALUE};
        for (int wrong : wrongAmounts) {
            check.due("amount " + wrong, bank.pay(-1, 0, wrong), DayEndBank.BAD);
            check.due("amount " + wrong, bank.pay(0, 1, wrong), DayEndBank.BAD);
        }
        check.due("nothing was written", bank.writes(), writes);
        check.due("balance(0)", bank.balance(0), 1000);
    }

    private static void codesInTheirOrder(Check check) {
        DayEndBank bank = bankOfThree();
        check.due("BAD before POOR", bank.pay(1, 1, 1000), DayEndBank.BAD);
        check.due("BAD amount before POOR", bank.pay(1, 0, 1000001), DayEndBank.BAD);
        Machine.leaveDayEndOpen(bank);
        check.due("BUSY before BAD", bank.pay(9, 0, 0), DayEndBank.BUSY);
        check.due("BUSY before POOR", bank.pay(1, 0, 1), DayEndBank.BUSY);
        Machine.stop(bank);
        check.due("STOPPED before BUSY", bank.pay(9, 0, 0), DayEndBank.STOPPED);
    }

    private static void stopInPay(Check check) {
        for (int fuse = 0; fuse <= 3; fuse++) {
            DayEndBank bank = bankOfThree();
            bank.pay(-1, 0, 500);
            bank.fuse(fuse);
            boolean isMade = fuse == 3;
            check.due("pay with fuse " + fuse, bank.pay(0, 1, 200), isMade ? 0 : DayEndBank.STOPPED);
            if (!isMade) {
                check.due("restart()", bank.restart(), 4);
            }
            check.due("balance(0)", bank.balance(0), isMade ? 300 : 500);
            check.due("balance(1)", bank.balance(1), isMade ? 200 : 0);
            check.due("lines()", bank.lines(), isMade ? 11 : 8);
            check.due("writes()", bank.writes(), 8 + fuse);
        }
        DayEndBank bank = bankOfThree();
        bank.fuse(1);
        check.due("cash stops too", bank.pay(-1, 0, 5), DayEndBank.STOPPED);
        bank.restart();
        check.due("cash as before", bank.ledger(0, 0), 0);
    }
}
