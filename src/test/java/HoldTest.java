/** Promises 4 and 5: hold and release. */
public final class HoldTest {
    public static void main(String[] args) {
        Check check = new Check();
        holdsTakeFromAvailable(check);
        leastFreeNumber(check);
        bothEndsOfTheAmount(check);
        noSuchAccount(check);
        wrongAmounts(check);
        fullWhenEightStand(check);
        poorWhenLessIsAvailable(check);
        releaseGivesBack(check);
        releaseOfNoHold(check);
        busyWhileADayEndIsOpen(check);
        holdsOutlastDayEnds(check);
        stoppedAtEachWrite(check);
        check.end();
    }

    private static void makeTwo(DayEndBank bank) {
        bank.open(0, 0, 100, 0);
        bank.open(1, 0, 1000000, 0);
        bank.pay(-1, 0, 900);
    }

    private static void makeTwoWithHolds(DayEndBank bank) {
        makeTwo(bank);
        bank.hold(0, 40);
        bank.hold(1, 50);
        bank.hold(0, 60);
        bank.release(1);
    }

    private static void makeTwoAndLeaveOpen(DayEndBank bank) {
        makeTwo(bank);
        bank.hold(0, 40);
        Machine.leaveDayEndOpen(bank);
    }

    /** 'What is AVAILABLE of it is balance + limit - the sum of its holds' */
    private static void holdsTakeFromAvailable(Check check) {
        DayEndBank bank = new DayEndBank();
        makeTwo(bank);
        check.due("available(0)", bank.available(0), 1000);
        check.due("a hold", bank.hold(0, 100), 0);
        check.due("a line and an end", bank.writes(), 6 + 2);
        check.due("available(0)", bank.available(0), 900);
        check.due("another hold", bank.hold(0, 250), 1);
        check.due("the sum of both", bank.available(0), 650);
        check.due("the other account has its own", bank.available(1), 1000000);
        check.due("balance stays", bank.balance(0), 900);
        check.due("cash stays", bank.ledger(0, 0), 900);
        check.due("customers stay", bank.ledger(0, 2), 900);
    }

    /** 'the least number that no standing hold has' */
    private static void leastFreeNumber(Check check) {
        DayEndBank bank = new DayEndBank();
        makeTwo(bank);
        for (int i = 0; i < 8; i++) {
            check.due("hold number " + i, bank.hold(i % 2, 10 + i), i);
        }
        bank.release(5);
        bank.release(2);
        bank.release(7);
        check.due("the least free", bank.hold(0, 1), 2);
        check.due("then the next", bank.hold(1, 1), 5);
        check.due("then the last", bank.hold(1, 1), 7);
        bank.release(0);
        check.due("0 again", bank.hold(1, 1), 0);
        bank.settle(3, -1, 1);
        check.due("settled numbers are free", bank.hold(0, 1), 3);
        check.due("available(0)", bank.available(0), 900 + 100 - 1 - 14 - 16 - 1);
        check.due("available(1)", bank.available(1), 1000000 - 11 - 1 - 1 - 1 - 1);
    }

    private static void bothEndsOfTheAmount(Check check) {
        DayEndBank bank = new DayEndBank();
        makeTwo(bank);
        check.due("1", bank.hold(0, 1), 0);
        check.due("1000000", bank.hold(1, 1000000), 1);
        check.due("available(0)", bank.available(0), 999);
        check.due("available(1)", bank.available(1), 0);
    }

    /** 'BAD when there is no such account' */
    private static void noSuchAccount(Check check) {
        Twins two = new Twins(check, HoldTest::makeTwo);
        int[] noAccounts = {-2, -1, 2, 5, 6, Integer.MIN_VALUE, Integer.MAX_VALUE};
        for (int wrong : noAccounts) {
            two.refused("hold on " + wrong, bank -> bank.hold(wrong, 1), DayEndBank.BAD);
        }
        new Twins(check, Machine::makeFull).refused("hold on 6", bank -> bank.hold(6, 1), DayEndBank.BAD);
    }

    /** 'or amount is not 1 .. 1000000' */
    private static void wrongAmounts(Check check) {
        DayEndBank rich = new DayEndBank();
        makeTwo(rich);
        rich.pay(-1, 1, 1000000);
        check.due("1000001 of 2000000", rich.hold(1, 1000001), DayEndBank.BAD);
        Twins two = new Twins(check, HoldTest::makeTwo);
        int[] wrongAmounts = {0, -1, 1000001, Integer.MIN_VALUE, Integer.MAX_VALUE};
        for (int wrong : wrongAmounts) {
            two.refused("hold of " + wrong, bank -> bank.hold(1, wrong), DayEndBank.BAD);
        }
    }

    /** 'at most 8 stand at a time, with the numbers 0 .. 7'; 'FULL when 8 stand' */
    private static void fullWhenEightStand(Check check) {
        Twins full = new Twins(check, Machine::makeFull);
        full.refused("the ninth, of a poor account", bank -> bank.hold(0, 1), DayEndBank.FULL);
        DayEndBank bank = new DayEndBank();
        makeTwo(bank);
        for (int i = 0; i < 7; i++) {
            bank.hold(i % 2, 1);
        }
        check.due("the eighth", bank.hold(1, 1), 7);
        check.due("the ninth", bank.hold(0, 1), DayEndBank.FULL);
        check.due("of either account", bank.hold(1, 1), DayEndBank.FULL);
        bank.release(4);
        check.due("7 stand", bank.hold(0, 1), 4);
        check.due("8 stand", bank.hold(0, 1), DayEndBank.FULL);
    }

    /** 'POOR when less is available' */
    private static void poorWhenLessIsAvailable(Check check) {
        Twins two = new Twins(check, HoldTest::makeTwo);
        two.refused("one more than 1000", bank -> bank.hold(0, 1001), DayEndBank.POOR);
        two.refused("much more", bank -> bank.hold(0, 1000000), DayEndBank.POOR);
        DayEndBank bank = new DayEndBank();
        makeTwo(bank);
        check.due("all that is available", bank.hold(0, 1000), 0);
        check.due("nothing is left", bank.available(0), 0);
        check.due("1 of nothing", bank.hold(0, 1), DayEndBank.POOR);
        check.due("of the other account", bank.hold(1, 1), 1);
    }

    private static void releaseGivesBack(Check check) {
        DayEndBank bank = new DayEndBank();
        makeTwoWithHolds(bank);
        int writes = bank.writes();
        check.due("release(0)", bank.release(0), 0);
        check.due("a line and an end", bank.writes(), writes + 2);
        check.due("only the third is held", bank.available(0), 940);
        check.due("release(2)", bank.release(2), 0);
        check.due("none is held", bank.available(0), 1000);
        check.due("balance as it was", bank.balance(0), 900);
        check.due("cash as it was", bank.ledger(0, 0), 900);
    }

    /** 'BAD when no hold with that number stands' */
    private static void releaseOfNoHold(Check check) {
        Twins two = new Twins(check, HoldTest::makeTwoWithHolds);
        int[] noHolds = {-1, 1, 3, 7, 8, Integer.MIN_VALUE, Integer.MAX_VALUE};
        for (int wrong : noHolds) {
            two.refused("release of " + wrong, bank -> bank.release(wrong), DayEndBank.BAD);
        }
        Twins full = new Twins(check, Machine::makeFull);
        full.refused("release of -1", bank -> bank.release(-1), DayEndBank.BAD);
        full.refused("release of 8", bank -> bank.release(8), DayEndBank.BAD);
        DayEndBank bank = new DayEndBank();
        Machine.makeFull(bank);
        check.due("the last", bank.release(7), 0);
        check.due("twice", bank.release(7), DayEndBank.BAD);
        check.due("the first", bank.release(0), 0);
        bank.settle(3, -1, 1);
        check.due("after settle", bank.release(3), DayEndBank.BAD);
    }

    private static void busyWhileADayEndIsOpen(Check check) {
        Twins open = new Twins(check, HoldTest::makeTwoAndLeaveOpen);
        open.refused("hold", bank -> bank.hold(0, 1), DayEndBank.BUSY);
        open.refused("release", bank -> bank.release(0), DayEndBank.BUSY);
        DayEndBank bank = new DayEndBank();
        makeTwoAndLeaveOpen(bank);
        bank.run(1);
        check.due("no longer, when it is closed", bank.hold(0, 1), 1);
        check.due("no longer, when it is closed", bank.release(0), 0);
    }

    private static void holdsOutlastDayEnds(Check check) {
        DayEndBank bank = new DayEndBank();
        makeTwoWithHolds(bank);
        Machine.runDays(bank, 40);
        check.due("available(0)", bank.available(0), 900);
        check.due("release(2)", bank.release(2), 0);
    }

    private static void stoppedAtEachWrite(Check check) {
        Twins two = new Twins(check, HoldTest::makeTwoWithHolds);
        two.stoppedAtEachWrite("hold", bank -> bank.hold(1, 70), 2);
        two.stoppedAtEachWrite("release", bank -> bank.release(2), 2);
    }
}
