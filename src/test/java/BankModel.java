import java.time.LocalDate;
import java.time.YearMonth;
import java.time.temporal.ChronoUnit;
import java.util.ArrayList;
import java.util.HashSet;
import java.util.List;
import java.util.Set;

/**
 * The document told once more, as literally as it can be: every transaction is made on a copy of the
 * state, its lines are written into a log one by one, and a stop throws the copy away.
 */
final class BankModel {
    private static final int END = -1;
    private static final LocalDate FIRST = LocalDate.of(2000, 1, 1);

    private static final class Account {
        int currency;
        int basis;
        int limit;
        int rate;
        long balance;
        long accrual;
        int mark;

        Account copy() {
            Account copy = new Account();
            copy.currency = currency;
            copy.basis = basis;
            copy.limit = limit;
            copy.rate = rate;
            copy.balance = balance;
            copy.accrual = accrual;
            copy.mark = mark;
            return copy;
        }
    }

    private static final class State {
        final List<Account> accounts = new ArrayList<>();
        final int[][] holds = new int[8][];
        final List<int[]> orders = new ArrayList<>();
        final List<Integer> misses = new ArrayList<>();
        final Set<Integer> rests = new HashSet<>();
        final long[] cash = new long[3];
        final long[] interest = new long[3];
        int today;
        boolean open;

        State copy() {
            State copy = new State();
            for (Account account : accounts) {
                copy.accounts.add(account.copy());
            }
            System.arraycopy(holds, 0, copy.holds, 0, 8);
            copy.orders.addAll(orders);
            copy.misses.addAll(misses);
            copy.rests.addAll(rests);
            System.arraycopy(cash, 0, copy.cash, 0, 3);
            System.arraycopy(interest, 0, copy.interest, 0, 3);
            copy.today = today;
            copy.open = open;
            return copy;
        }

        boolean has(int account) {
            return account >= 0 && account < accounts.size();
        }

        long available(int account) {
            long available = accounts.get(account).balance + accounts.get(account).limit;
            for (int[] hold : holds) {
                if (hold != null && hold[0] == account) {
                    available -= hold[1];
                }
            }
            return available;
        }

        void move(int from, int to, int amount) {
            if (from == -1) {
                cash[accounts.get(to).currency] += amount;
            } else {
                accounts.get(from).balance -= amount;
            }
            if (to == -1) {
                cash[accounts.get(from).currency] -= amount;
            } else {
                accounts.get(to).balance += amount;
            }
        }

        boolean isRest(int date) {
            return date % 7 == 0 || date % 7 == 1 || rests.contains(date);
        }

        int dueDate(int day) {
            YearMonth month = YearMonth.from(FIRST.plusDays(today));
            LocalDate wanted = month.atDay(Math.min(day, month.lengthOfMonth()));
            LocalDate found = wanted;
            while (isRest(dateOf(found))) {
                found = found.plusDays(1);
            }
            if (!YearMonth.from(found).equals(month)) {
                found = wanted;
                while (isRest(dateOf(found))) {
                    found = found.minusDays(1);
                }
            }
            return dateOf(found);
        }
    }

    private State state = new State();
    private final List<Integer> log = new ArrayList<>();
    private int writes;
    private int fuse = -1;
    private boolean stopped;

    static int dateOf(LocalDate day) {
        return (int) ChronoUnit.DAYS.between(FIRST, day);
    }

    private boolean write() {
        if (fuse == 0) {
            stopped = true;
            while (!log.isEmpty() && log.get(log.size() - 1) != END) {
                log.remove(log.size() - 1);
            }
            return false;
        }
        fuse = fuse < 0 ? fuse : fuse - 1;
        writes++;
        return true;
    }

    private boolean commit(State next, List<Integer> changed) {
        if (log.size() + changed.size() + 1 > 24) {
            Set<Integer> touched = new HashSet<>(log);
            touched.remove(END);
            for (int i = 0; i < touched.size(); i++) {
                if (!write()) {
                    return false;
                }
            }
            if (!write()) {
                return false;
            }
            log.clear();
        }
        List<Integer> all = new ArrayList<>(changed);
        all.add(END);
        for (int line : all) {
            if (!write()) {
                return false;
            }
            log.add(line);
        }
        state = next;
        return true;
    }

    private static List<Integer> accountsOf(int... numbers) {
        List<Integer> list = new ArrayList<>();
        for (int number : numbers) {
            if (number != -1) {
                list.add(number);
            }
        }
        return list;
    }

    private boolean isOut(int number, int least, int most) {
        return number < least || number > most;
    }

    private int gate() {
        return stopped ? -1 : state.open ? -2 : 0;
    }

    int open(int currency, int basis, int limit, int rate) {
        if (gate() != 0) {
            return gate();
        }
        if (isOut(currency, 0, 2) || isOut(basis, 0, 2) || isOut(limit, 0, 1000000) || isOut(rate, 0, 1000)) {
            return -3;
        }
        int number = state.accounts.size();
        if (number == 6) {
            return -4;
        }
        State next = state.copy();
        Account account = new Account();
        account.currency = currency;
        account.basis = basis;
        account.limit = limit;
        account.rate = rate;
        account.mark = state.today - 1;
        next.accounts.add(account);
        return commit(next, accountsOf(number)) ? number : -1;
    }

    private boolean isBadPair(int from, int to) {
        if (from != -1 && !state.has(from) || to != -1 && !state.has(to) || from == to) {
            return true;
        }
        return from != -1 && to != -1
                && state.accounts.get(from).currency != state.accounts.get(to).currency;
    }

    int pay(int from, int to, int amount) {
        if (gate() != 0) {
            return gate();
        }
        if (isBadPair(from, to) || isOut(amount, 1, 1000000)) {
            return -3;
        }
        if (from != -1 && state.available(from) < amount) {
            return -5;
        }
        State next = state.copy();
        next.move(from, to, amount);
        return commit(next, accountsOf(from, to)) ? 0 : -1;
    }

    int hold(int account, int amount) {
        if (gate() != 0) {
            return gate();
        }
        if (!state.has(account) || isOut(amount, 1, 1000000)) {
            return -3;
        }
        State next = state.copy();
        for (int i = 0; i < 8; i++) {
            if (state.holds[i] == null) {
                if (state.available(account) < amount) {
                    return -5;
                }
                next.holds[i] = new int[] {account, amount};
                return commit(next, accountsOf(account)) ? i : -1;
            }
        }
        return -4;
    }

    int release(int hold) {
        if (gate() != 0) {
            return gate();
        }
        if (isOut(hold, 0, 7) || state.holds[hold] == null) {
            return -3;
        }
        State next = state.copy();
        next.holds[hold] = null;
        return commit(next, accountsOf(state.holds[hold][0])) ? 0 : -1;
    }

    int settle(int hold, int to, int amount) {
        if (gate() != 0) {
            return gate();
        }
        if (isOut(hold, 0, 7) || state.holds[hold] == null) {
            return -3;
        }
        int from = state.holds[hold][0];
        if (isBadPair(from, to) || isOut(amount, 1, state.holds[hold][1])) {
            return -3;
        }
        State next = state.copy();
        next.holds[hold] = null;
        next.move(from, to, amount);
        return commit(next, accountsOf(from, to)) ? 0 : -1;
    }

    int order(int from, int to, int amount, int day) {
        if (gate() != 0) {
            return gate();
        }
        if (from == -1 || to == -1 || isBadPair(from, to) || isOut(amount, 1, 1000000) || isOut(day, 1, 31)) {
            return -3;
        }
        if (state.orders.size() == 6) {
            return -4;
        }
        State next = state.copy();
        next.orders.add(new int[] {from, to, amount, day});
        next.misses.add(0);
        return commit(next, accountsOf(from)) ? next.orders.size() - 1 : -1;
    }

    int rest(int date) {
        if (gate() != 0) {
            return gate();
        }
        if (isOut(date, 0, 20000) || state.isRest(date)
                || !YearMonth.from(FIRST.plusDays(date)).isAfter(YearMonth.from(FIRST.plusDays(state.today)))) {
            return -3;
        }
        if (state.rests.size() == 8) {
            return -4;
        }
        State next = state.copy();
        next.rests.add(date);
        return commit(next, accountsOf()) ? 0 : -1;
    }

    int run(int n) {
        if (stopped) {
            return -1;
        }
        if (isOut(n, 1, 31)) {
            return -3;
        }
        for (int i = 0; i < n && !stopped; i++) {
            dayEnd();
        }
        return stopped ? -1 : n;
    }

    private void dayEnd() {
        State next = state.copy();
        if (!state.open) {
            next.open = true;
            commit(next, accountsOf());
        }
        for (int i = 0; i < state.accounts.size() && !stopped; i++) {
            if (state.accounts.get(i).mark < state.today) {
                step(i);
            }
        }
        if (!stopped) {
            next = state.copy();
            next.today++;
            next.open = false;
            commit(next, accountsOf());
        }
    }

    private void step(int number) {
        State next = state.copy();
        List<Integer> changed = new ArrayList<>();
        for (int i = 0; i < next.orders.size(); i++) {
            int[] order = next.orders.get(i);
            if (order[0] == number && next.dueDate(order[3]) == next.today) {
                if (order[2] <= next.available(number)) {
                    next.move(number, order[1], order[2]);
                    changed.add(order[1]);
                } else {
                    next.misses.set(i, next.misses.get(i) + 1);
                }
            }
        }
        changed.add(number);
        Account account = next.accounts.get(number);
        account.accrual += account.balance * account.rate * count(account.basis, next.today, next.today + 1);
        if (FIRST.plusDays(next.today + 1).getDayOfMonth() == 1) {
            long unit = 10000L * (account.basis == 0 ? 365 : 360);
            long q = java.math.BigDecimal.valueOf(account.accrual)
                    .divide(java.math.BigDecimal.valueOf(unit), 0, java.math.RoundingMode.HALF_EVEN).longValueExact();
            account.balance += q;
            account.accrual -= q * unit;
            next.interest[account.currency] += q;
        }
        account.mark = next.today;
        commit(next, changed);
    }

    boolean fuse(int n) {
        if (stopped || isOut(n, -1, 500)) {
            return false;
        }
        fuse = n;
        return true;
    }

    int restart() {
        if (!stopped) {
            return -3;
        }
        stopped = false;
        fuse = -1;
        int transactions = 0;
        for (int line : log) {
            transactions += line == END ? 1 : 0;
        }
        return transactions;
    }

    long balance(int account) {
        return stopped || !state.has(account) ? 0 : state.accounts.get(account).balance;
    }

    long available(int account) {
        return stopped || !state.has(account) ? 0 : state.available(account);
    }

    long accrued(int account) {
        return stopped || !state.has(account) ? 0 : state.accounts.get(account).accrual;
    }

    int mark(int account) {
        return stopped || !state.has(account) ? 0 : state.accounts.get(account).mark;
    }

    long ledger(int currency, int which) {
        if (stopped || isOut(currency, 0, 2) || isOut(which, 0, 2)) {
            return 0;
        }
        long customers = 0;
        for (Account account : state.accounts) {
            customers += account.currency == currency ? account.balance : 0;
        }
        return which == 0 ? state.cash[currency] : which == 1 ? state.interest[currency] : customers;
    }

    int missed(int order) {
        return stopped || isOut(order, 0, state.orders.size() - 1) ? 0 : state.misses.get(order);
    }

    int today() {
        return stopped ? 0 : state.today;
    }

    int count(int basis, int from, int to) {
        if (isOut(basis, 0, 2) || from < 0 || from > to || to > 99999) {
            return -1;
        }
        if (basis < 2) {
            return to - from;
        }
        LocalDate first = FIRST.plusDays(from);
        LocalDate last = FIRST.plusDays(to);
        int firstDay = first.getDayOfMonth() == 31 ? 30 : first.getDayOfMonth();
        int lastDay = last.getDayOfMonth() == 31 && firstDay == 30 ? 30 : last.getDayOfMonth();
        return 360 * (last.getYear() - first.getYear())
                + 30 * (last.getMonthValue() - first.getMonthValue()) + lastDay - firstDay;
    }

    int writes() {
        return writes;
    }

    int lines() {
        return stopped ? 0 : log.size();
    }
}
