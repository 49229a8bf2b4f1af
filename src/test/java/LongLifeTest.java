/** 'An object is used for at most 512 calls': lives of that length that lead to the greatest numbers. */
public final class LongLifeTest {
    private static final int CALLS = 512;
    private static final int CALLS_TO_READ = 36;

    private final Check check;
    private final String name;
    private final DayEndBank bank = new DayEndBank();
    private final BankModel model = new BankModel();
    private int calls;

    private LongLifeTest(Check check, String name) {
        this.check = check;
        this.name = name;
    }

    public static void main(String[] args) {
        Check check = new Check();
        new LongLifeTest(check, "the farthest date").farthestDate();
        for (int basis = 0; basis < 3; basis++) {
            new LongLifeTest(check, "the greatest balance of basis " + basis).greatestBalance(basis);
            new LongLifeTest(check, "the greatest debt of basis " + basis).greatestDebt(basis);
        }
        new LongLifeTest(check, "a stop at every call").stopAtEveryCall();
        check.end();
    }

    private void farthestDate() {
        openSix(0, 1000);
        for (int i = 0; i < 6; i++) {
            pay(-1, i, 500000 + i);
        }
        for (int i = 0; i < 6; i++) {
            int to = (i + 1) % 6;
            int amount = 1000 * (i + 1);
            due("order", bank.order(i, to, amount, 26 + i), model.order(i, to, amount, 26 + i));
        }
        for (int i = 0; i < 8; i++) {
            due("rest", bank.rest(13650 + i), model.rest(13650 + i));
        }
        runToTheEnd();
        check.due("the rest days are over", model.today() > 13700, true);
    }

    private void greatestBalance(int basis) {
        openSix(basis, 0);
        for (int i = 0; i < 200; i++) {
            pay(-1, 0, 1000000);
        }
        runToTheEnd();
        check.due("the balance has doubled", model.balance(0) > 400000000L, true);
    }

    private void greatestDebt(int basis) {
        openSix(basis, 1000000);
        for (int i = 0; i < 6; i++) {
            pay(i, -1, 1000000);
        }
        runToTheEnd();
        check.due("the debt has grown", model.balance(0) < -20000000L, true);
    }

    private void stopAtEveryCall() {
        openSix(2, 50000);
        while (calls < CALLS - CALLS_TO_READ - 3) {
            int n = calls % 29;
            due("fuse", bank.fuse(n) ? 1 : 0, model.fuse(n) ? 1 : 0);
            due("run", bank.run(1 + n), model.run(1 + n));
            due("restart", bank.restart(), model.restart());
        }
        readAll();
    }

    private void openSix(int basis, int limit) {
        for (int i = 0; i < 6; i++) {
            due("open", bank.open(0, basis, limit, 1000), model.open(0, basis, limit, 1000));
        }
    }

    private void pay(int from, int to, int amount) {
        due("pay", bank.pay(from, to, amount), model.pay(from, to, amount));
    }

    private void runToTheEnd() {
        while (calls < CALLS - CALLS_TO_READ) {
            due("run", bank.run(31), model.run(31));
        }
        readAll();
    }

    private void readAll() {
        for (int i = 0; i < 6; i++) {
            due("balance", bank.balance(i), model.balance(i));
            due("available", bank.available(i), model.available(i));
            due("accrued", bank.accrued(i), model.accrued(i));
            due("mark", bank.mark(i), model.mark(i));
            due("missed", bank.missed(i), model.missed(i));
        }
        for (int which = 0; which < 3; which++) {
            due("ledger", bank.ledger(0, which), model.ledger(0, which));
        }
        due("today", bank.today(), model.today());
        due("writes", bank.writes(), model.writes());
        due("lines", bank.lines(), model.lines());
    }

    private void due(String call, long got, long want) {
        calls++;
        check.due(name + ": " + call, got, want);
    }
}
