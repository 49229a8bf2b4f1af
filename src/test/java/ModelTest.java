import java.util.Random;

/** Promises 1 to 21: long mixed runs of calls, each answer held against that of the model. */
public final class ModelTest {
    private static final int RUNS = 600;
    private static final int CALLS = 512;
    private static final int[] ODD_NUMBERS = {
        Integer.MIN_VALUE, -1000001, -2, -1, 0, 1, 2, 3, 6, 7, 8, 31, 32, 500, 501, 1000, 1001,
        20000, 20001, 99999, 100000, 1000000, 1000001, Integer.MAX_VALUE};

    private final Check check;
    private final Random random;
    private final DayEndBank bank = new DayEndBank();
    private final BankModel model = new BankModel();
    private final String name;
    private final int haste;

    private ModelTest(Check check, int seed) {
        this.check = check;
        this.random = new Random(seed);
        this.name = "run " + seed + ": ";
        this.haste = seed % 3;
    }

    public static void main(String[] args) {
        Check check = new Check();
        for (int seed = 0; seed < RUNS; seed++) {
            ModelTest test = new ModelTest(check, seed);
            for (int call = 0; call < CALLS; call++) {
                test.makeCall();
            }
        }
        check.end();
    }

    private int upTo(int least, int most) {
        boolean isOdd = random.nextInt(60) == 0;
        return isOdd ? ODD_NUMBERS[random.nextInt(ODD_NUMBERS.length)] : least + random.nextInt(most - least + 1);
    }

    private int account() {
        return upTo(-1, 5);
    }

    private int amount() {
        return random.nextInt(3) == 0 ? upTo(1, 1000000) : upTo(1, 2000);
    }

    /** Just what is available, or one more, as often as any other amount. */
    private int amountOf(int account) {
        long available = model.available(account) + random.nextInt(2);
        boolean isNear = available > 0 && available <= 1000001 && random.nextInt(2) == 0;
        return isNear ? (int) available : amount();
    }

    private void makeCall() {
        int kind = random.nextInt(100);
        if (kind < 40) {
            change(kind);
        } else if (kind < 62) {
            machine(kind);
        } else {
            reading(kind);
        }
    }

    private void change(int kind) {
        int a = account();
        int b = account();
        if (kind < 5) {
            int currency = upTo(0, random.nextInt(3));
            int basis = upTo(0, 2);
            int limit = random.nextInt(2) == 0 ? 0 : upTo(0, 1000000);
            int rate = upTo(0, 1000);
            due("open", bank.open(currency, basis, limit, rate), model.open(currency, basis, limit, rate));
        } else if (kind < 17) {
            int amount = amountOf(a);
            due("pay", bank.pay(a, b, amount), model.pay(a, b, amount));
        } else if (kind < 24) {
            int amount = amountOf(a);
            due("hold", bank.hold(a, amount), model.hold(a, amount));
        } else if (kind < 27) {
            int hold = upTo(0, 7);
            due("release", bank.release(hold), model.release(hold));
        } else if (kind < 32) {
            int hold = upTo(0, 7);
            int amount = amount();
            due("settle", bank.settle(hold, b, amount), model.settle(hold, b, amount));
        } else if (kind < 36) {
            int amount = amount();
            int day = upTo(1, 31);
            due("order", bank.order(a, b, amount, day), model.order(a, b, amount, day));
        } else {
            int date = upTo(0, 20) == 0 ? upTo(0, 20000) : model.today() + upTo(0, 75);
            due("rest", bank.rest(date), model.rest(date));
        }
    }

    private void machine(int kind) {
        if (kind < 49) {
            int n = haste == 0 ? upTo(1, 2) : haste == 1 ? upTo(1, 31) : upTo(20, 31);
            due("run", bank.run(n), model.run(n));
        } else if (kind < 55) {
            int n = random.nextInt(3) == 0 ? upTo(-1, 500) : upTo(0, 12);
            due("fuse", bank.fuse(n) ? 1 : 0, model.fuse(n) ? 1 : 0);
        } else {
            due("restart", bank.restart(), model.restart());
        }
    }

    private void reading(int kind) {
        int number = upTo(0, 5);
        int which = upTo(0, 2);
        int currency = upTo(0, 2);
        switch (kind % 10) {
            case 0 -> due("balance", bank.balance(number), model.balance(number));
            case 1 -> due("available", bank.available(number), model.available(number));
            case 2 -> due("accrued", bank.accrued(number), model.accrued(number));
            case 3 -> due("mark", bank.mark(number), model.mark(number));
            case 4 -> due("ledger", bank.ledger(currency, which), model.ledger(currency, which));
            case 5 -> due("missed", bank.missed(number), model.missed(number));
            case 6 -> due("today", bank.today(), model.today());
            case 7 -> {
                int from = upTo(0, 99999);
                int to = from + upTo(0, 400);
                due("count", bank.count(which, from, to), model.count(which, from, to));
            }
            case 8 -> due("writes", bank.writes(), model.writes());
            default -> due("lines", bank.lines(), model.lines());
        }
    }

    private void due(String call, long got, long want) {
        check.due(name + call, got, want);
    }
}
