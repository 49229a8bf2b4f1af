import java.util.ArrayList;
import java.util.List;

/**
 * Makes two banks alike and asks one of them something that must leave no trace: from then on both
 * must answer the same, whatever they are asked.
 */
final class Twins {
    interface Making {
        void make(DayEndBank bank);
    }

    interface Call {
        long answer(DayEndBank bank);
    }

    /** None, and two that a write too many or too few lets burn through at another call. */
    private static final int[] FUSES = {-1, 0, 6};

    private final Check check;
    private final Making making;

    Twins(Check check, Making making) {
        this.check = check;
        this.making = making;
    }

    /** 'A call that answers a code other than STOPPED, or false, changes nothing.' */
    void refused(String name, Call call, long due) {
        for (int fuse : FUSES) {
            DayEndBank asked = made();
            DayEndBank spared = made();
            asked.fuse(fuse);
            spared.fuse(fuse);
            check.due(name, call.answer(asked), due);
            same(name + ", fuse " + fuse, lifeOf(asked, 0), lifeOf(spared, 0));
        }
    }

    /**
     * 'Of a transaction whose end was not written nothing stays, nor any line in the log'; the log
     * must have room for the transaction, so that no checkpoint is made before it.
     */
    void stoppedAtEachWrite(String name, Call call, int writesOfCall) {
        for (int fuse = 0; fuse < writesOfCall; fuse++) {
            DayEndBank asked = made();
            DayEndBank spared = made();
            check.due("the fuse", asked.fuse(fuse), true);
            check.due(name + " with fuse " + fuse, call.answer(asked), DayEndBank.STOPPED);
            check.due("writes() after " + name, asked.writes(), spared.writes() + fuse);
            check.due("restart() after " + name, asked.restart() >= 0, true);
            same(name + " with fuse " + fuse, lifeOf(asked, fuse), lifeOf(spared, 0));
        }
        DayEndBank asked = made();
        int writes = asked.writes();
        asked.fuse(writesOfCall);
        check.due(name + " with just enough", call.answer(asked) >= 0, true);
        check.due("writes() after " + name, asked.writes(), writes + writesOfCall);
        check.due("it is not stopped", asked.restart(), DayEndBank.BAD);
    }

    private DayEndBank made() {
        DayEndBank bank = new DayEndBank();
        making.make(bank);
        return bank;
    }

    private void same(String name, List<Long> asked, List<Long> spared) {
        int first = 0;
        while (first < spared.size() && asked.get(first).equals(spared.get(first))) {
            first++;
        }
        check.due(name + ": answers that stay the same", first, spared.size());
    }

    private static List<Long> lifeOf(DayEndBank bank, int writesToForget) {
        List<Long> answers = new ArrayList<>();
        read(bank, answers);
        answers.add((long) bank.writes() - writesToForget);
        answers.add((long) bank.run(2));
        answers.add((long) bank.restart());
        read(bank, answers);
        change(bank, answers);
        makeUntilFull(bank, answers);
        answers.add((long) bank.run(31));
        answers.add((long) bank.restart());
        answers.add((long) bank.run(31));
        read(bank, answers);
        answers.add((long) bank.writes() - writesToForget);
        return answers;
    }

    private static void read(DayEndBank bank, List<Long> answers) {
        for (int i = 0; i < 6; i++) {
            answers.add(bank.balance(i));
            answers.add(bank.available(i));
            answers.add(bank.accrued(i));
            answers.add((long) bank.mark(i));
            answers.add((long) bank.missed(i));
        }
        for (int i = 0; i < 9; i++) {
            answers.add(bank.ledger(i / 3, i % 3));
        }
        answers.add((long) bank.today());
        answers.add((long) bank.lines());
    }

    private static void change(DayEndBank bank, List<Long> answers) {
        answers.add((long) bank.settle(1, -1, 3));
        answers.add((long) bank.release(0));
        for (int i = 0; i < 6; i++) {
            answers.add((long) bank.pay(-1, i, 1000 + i));
            answers.add((long) bank.pay(i, (i + 1) % 6, 10 + i));
        }
    }

    private static void makeUntilFull(DayEndBank bank, List<Long> answers) {
        for (int i = 0; i < 7; i++) {
            answers.add((long) bank.open(i % 3, i % 3, 50, 400));
        }
        for (int i = 0; i < 9; i++) {
            answers.add((long) bank.hold(i % 6, 20 + i));
        }
        for (int i = 0; i < 9; i++) {
            answers.add((long) bank.order(i % 6, (i + 3) % 6, 5 + i, 28));
        }
        for (int i = 0; i < 12; i++) {
            answers.add((long) bank.rest(bank.today() + 45 + i));
        }
    }
}
