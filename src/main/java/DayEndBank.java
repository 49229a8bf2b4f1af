/**
 * A small bank that lives on a disk: accounts, payments, holds, standing orders, and a day end
 * that can be gone on with after the machine has stopped at any write.
 *
 * Every change is first planned, then written to the disk as one transaction, and only then made
 * in memory: so a stop in the middle of a transaction leaves nothing to be undone.
 */
public final class DayEndBank {
    public static final int STOPPED = -1;
    public static final int BUSY = -2;
    public static final int BAD = -3;
    public static final int FULL = -4;
    public static final int POOR = -5;

    private static final int CASH = -1;
    private static final int CURRENCIES = 3;
    private static final int MOST_ACCOUNTS = 6;
    private static final int MOST_HOLDS = 8;
    private static final int MOST_ORDERS = 6;
    private static final int MOST_MONEY = 1000000;
    private static final int MOST_RATE = 1000;
    private static final int MOST_DAY_ENDS = 31;
    private static final int MOST_FUSE = 500;
    private static final int LAST_REST_DATE = 20000;
    private static final int LAST_COUNT_DATE = 99999;

    private final Account[] accounts = new Account[MOST_ACCOUNTS];
    private final Hold[] holds = new Hold[MOST_HOLDS];
    private final Order[] orders = new Order[MOST_ORDERS];
    private final RestDays restDays = new RestDays();
    private final Disk disk = new Disk();
    private final long[] cash = new long[CURRENCIES];
    private final long[] interest = new long[CURRENCIES];
    private int accountsOpened;
    private int ordersMade;
    private int bookDate;
    private boolean dayEndOpen;

    public DayEndBank() {
        for (int i = 0; i < MOST_ACCOUNTS; i++) {
            accounts[i] = new Account(i);
        }
        for (int i = 0; i < MOST_HOLDS; i++) {
            holds[i] = new Hold();
        }
        for (int i = 0; i < MOST_ORDERS; i++) {
            orders[i] = new Order();
        }
    }

    public int open(int currency, int basis, int limit, int rate) {
        int refusal = refusalOfChange();
        if (refusal != 0) {
            return refusal;
        }
        if (!isCurrency(currency) || !Calendar.isBasis(basis)) {
            return BAD;
        }
        if (!isWithin(limit, 0, MOST_MONEY) || !isWithin(rate, 0, MOST_RATE)) {
            return BAD;
        }
        if (accountsOpened >= MOST_ACCOUNTS) {
            return FULL;
        }
        Account account = accounts[accountsOpened];
        if (!disk.writeTransaction(bitOf(account))) {
            return STOPPED;
        }
        account.currency = currency;
        account.basis = basis;
        account.limit = limit;
        account.rate = rate;
        account.mark = bookDate - 1;
        accountsOpened++;
        return account.number;
    }

    public int pay(int from, int to, int amount) {
        int refusal = refusalOfChange();
        if (refusal != 0) {
            return refusal;
        }
        if (!isPayable(from, to) || !isAmount(amount)) {
            return BAD;
        }
        Account payer = accountOf(from);
        Account payee = accountOf(to);
        if (payer != null && amount > payer.spendable()) {
            return POOR;
        }
        if (!disk.writeTransaction(bitOf(payer) | bitOf(payee))) {
            return STOPPED;
        }
        transfer(payer, payee, amount);
        return 0;
    }

    public int hold(int account, int amount) {
        int refusal = refusalOfChange();
        if (refusal != 0) {
            return refusal;
        }
        Account holder = accountOf(account);
        if (holder == null || !isAmount(amount)) {
            return BAD;
        }
        int number = leastFreeHold();
        if (number >= MOST_HOLDS) {
            return FULL;
        }
        if (amount > holder.spendable()) {
            return POOR;
        }
        if (!disk.writeTransaction(bitOf(holder))) {
            return STOPPED;
        }
        holds[number].begin(holder, amount);
        return number;
    }

    public int release(int hold) {
        int refusal = refusalOfChange();
        if (refusal != 0) {
            return refusal;
        }
        Hold standing = standingHold(hold);
        if (standing == null) {
            return BAD;
        }
        if (!disk.writeTransaction(bitOf(standing.holder))) {
            return STOPPED;
        }
        standing.end();
        return 0;
    }

    public int settle(int hold, int to, int amount) {
        int refusal = refusalOfChange();
        if (refusal != 0) {
            return refusal;
        }
        Hold standing = standingHold(hold);
        if (standing == null || !isWithin(amount, 1, standing.amount)) {
            return BAD;
        }
        Account payer = standing.holder;
        if (payer == null || !isPayable(payer.number, to)) {
            return BAD;
        }
        Account payee = accountOf(to);
        if (!disk.writeTransaction(bitOf(payer) | bitOf(payee))) {
            return STOPPED;
        }
        standing.end();
        transfer(payer, payee, amount);
        return 0;
    }

    public int order(int from, int to, int amount, int day) {
        int refusal = refusalOfChange();
        if (refusal != 0) {
            return refusal;
        }
        Account payer = accountOf(from);
        Account payee = accountOf(to);
        if (payer == null || payee == null || !isPayable(from, to)) {
            return BAD;
        }
        if (!isAmount(amount) || !isWithin(day, 1, 31)) {
            return BAD;
        }
        if (ordersMade >= MOST_ORDERS) {
            return FULL;
        }
        if (!disk.writeTransaction(bitOf(payer))) {
            return STOPPED;
        }
        orders[ordersMade].make(payer, payee, amount, day);
        ordersMade++;
        return ordersMade - 1;
    }

    public int rest(int date) {
        int refusal = refusalOfChange();
        if (refusal != 0) {
            return refusal;
        }
        if (!isWithin(date, 0, LAST_REST_DATE) || restDays.isRest(date)) {
            return BAD;
        }
        if (!isInLaterMonth(date)) {
            return BAD;
        }
        if (restDays.isFull()) {
            return FULL;
        }
        if (!disk.writeTransaction(0)) {
            return STOPPED;
        }
        restDays.add(date);
        return 0;
    }

    public int run(int n) {
        if (disk.stopped) {
            return STOPPED;
        }
        if (!isWithin(n, 1, MOST_DAY_ENDS)) {
            return BAD;
        }
        for (int i = 0; i < n; i++) {
            if (!makeDayEnd()) {
                return STOPPED;
            }
        }
        return n;
    }

    public boolean fuse(int n) {
        if (disk.stopped || !isWithin(n, Disk.NO_FUSE, MOST_FUSE)) {
            return false;
        }
        disk.writesLeft = n;
        return true;
    }

    public int restart() {
        if (!disk.stopped) {
            return BAD;
        }
        disk.stopped = false;
        disk.writesLeft = Disk.NO_FUSE;
        return disk.transactionsInLog;
    }

    public long balance(int account) {
        Account shown = shownAccount(account);
        return shown == null ? 0 : shown.balance;
    }

    public long available(int account) {
        Account shown = shownAccount(account);
        return shown == null ? 0 : shown.spendable();
    }

    public long accrued(int account) {
        Account shown = shownAccount(account);
        return shown == null ? 0 : shown.accrual;
    }

    public int mark(int account) {
        Account shown = shownAccount(account);
        return shown == null ? 0 : shown.mark;
    }

    public long ledger(int currency, int which) {
        if (disk.stopped || !isCurrency(currency)) {
            return 0;
        }
        switch (which) {
            case 0:
                return cash[currency];
            case 1:
                return interest[currency];
            case 2:
                return sumOfBalances(currency);
            default:
                return 0;
        }
    }

    public int missed(int order) {
        if (disk.stopped || !isWithin(order, 0, ordersMade - 1)) {
            return 0;
        }
        return orders[order].misses;
    }

    public int today() {
        return disk.stopped ? 0 : bookDate;
    }

    public int count(int basis, int from, int to) {
        if (!Calendar.isBasis(basis) || from < 0 || from > to || to > LAST_COUNT_DATE) {
            return -1;
        }
        return Calendar.dayCount(basis, from, to);
    }

    public int writes() {
        return disk.writesMade;
    }

    public int lines() {
        return disk.stopped ? 0 : disk.linesInLog;
    }

    private static boolean isWithin(int number, int least, int most) {
        return least <= number && number <= most;
    }

    private static boolean isCurrency(int currency) {
        return isWithin(currency, 0, CURRENCIES - 1);
    }

    private static boolean isAmount(int amount) {
        return isWithin(amount, 1, MOST_MONEY);
    }

    /** The bit that stands for an account among the accounts of a transaction; cash has none. */
    private static int bitOf(Account account) {
        return account == null ? 0 : 1 << account.number;
    }

    /** The code that every change is refused with in this state, or 0. */
    private int refusalOfChange() {
        if (disk.stopped) {
            return STOPPED;
        }
        return dayEndOpen ? BUSY : 0;
    }

    private Account accountOf(int number) {
        return isWithin(number, 0, accountsOpened - 1) ? accounts[number] : null;
    }

    private Account shownAccount(int number) {
        return disk.stopped ? null : accountOf(number);
    }

    private Hold standingHold(int number) {
        if (!isWithin(number, 0, MOST_HOLDS - 1)) {
            return null;
        }
        return holds[number].holder == null ? null : holds[number];
    }

    private int leastFreeHold() {
        int number = 0;
        while (number < MOST_HOLDS && holds[number].holder != null) {
            number++;
        }
        return number;
    }

    private boolean isPayable(int from, int to) {
        if (from == to || !isParty(from) || !isParty(to)) {
            return false;
        }
        Account payer = accountOf(from);
        Account payee = accountOf(to);
        return payer == null || payee == null || payer.currency == payee.currency;
    }

    private boolean isParty(int number) {
        return number == CASH || accountOf(number) != null;
    }

    private boolean isInLaterMonth(int date) {
        int month = Calendar.monthIn(Calendar.monthAndDay(date));
        return month > Calendar.monthIn(Calendar.monthAndDay(bookDate));
    }

    /** Moves money between two accounts; null stands for cash. */
    private void transfer(Account payer, Account payee, int amount) {
        if (payer != null) {
            payer.balance -= amount;
        } else if (payee != null) {
            cash[payee.currency] += amount;
        }
        if (payee != null) {
            payee.balance += amount;
        } else if (payer != null) {
            cash[payer.currency] -= amount;
        }
    }

    private long sumOfBalances(int currency) {
        long sum = 0;
        for (int i = 0; i < accountsOpened; i++) {
            if (accounts[i].currency == currency) {
                sum += accounts[i].balance;
            }
        }
        return sum;
    }

    /** False if the machine stopped; what was reached is then gone on with by the next call. */
    private boolean makeDayEnd() {
        if (!dayEndOpen && !disk.writeTransaction(0)) {
            return false;
        }
        dayEndOpen = true;
        for (int i = 0; i < accountsOpened; i++) {
            if (accounts[i].mark < bookDate && !makeStep(accounts[i])) {
                return false;
            }
        }
        if (!disk.writeTransaction(0)) {
            return false;
        }
        bookDate++;
        dayEndOpen = false;
        return true;
    }

    private boolean makeStep(Account account) {
        planOrders(account);
        if (!writeStep(account)) {
            return false;
        }
        carryOutOrders();
        account.accrue(Calendar.dayCount(account.basis, bookDate, bookDate + 1));
        if (Calendar.isLastOfMonth(bookDate)) {
            interest[account.currency] += account.takeInterest();
        }
        account.mark = bookDate;
        return true;
    }

    /** Decides what each order does in this step, as the disk must know it before it is done. */
    private void planOrders(Account account) {
        long left = account.spendable();
        for (int i = 0; i < ordersMade; i++) {
            Order order = orders[i];
            order.isDue = order.payer == account
                    && restDays.dueDate(order.day, bookDate) == bookDate;
            order.isPaid = order.isDue && order.amount <= left;
            if (order.isPaid) {
                left -= order.amount;
            }
        }
    }

    private boolean writeStep(Account account) {
        int changed = bitOf(account);
        int lineCount = 2;
        for (int i = 0; i < ordersMade; i++) {
            if (orders[i].isPaid) {
                changed |= bitOf(orders[i].payee);
                lineCount++;
            }
        }
        return disk.writeLines(changed, lineCount);
    }

    private void carryOutOrders() {
        for (int i = 0; i < ordersMade; i++) {
            Order order = orders[i];
            if (order.isPaid) {
                transfer(order.payer, order.payee, order.amount);
            } else if (order.isDue) {
                order.misses++;
            }
        }
    }

    private static final class Account {
        final int number;
        int currency;
        int basis;
        int limit;
        int rate;
        long balance;
        long held;
        long accrual;
        int mark;

        Account(int number) {
            this.number = number;
        }

        long spendable() {
            return balance + limit - held;
        }

        void accrue(int days) {
            accrual += balance * rate * days;
        }

        /** Moves the whole units of the accrual into the balance, and answers them. */
        long takeInterest() {
            long unit = 10000L * Calendar.yearOf(basis);
            long whole = nearest(accrual, unit);
            balance += whole;
            accrual -= whole * unit;
            return whole;
        }

        /** Rounds down first, so that one rule serves sums on both sides of zero. */
        private static long nearest(long sum, long unit) {
            long below = Math.floorDiv(sum, unit);
            long twiceRest = 2 * (sum - below * unit);
            boolean isBelowOdd = (below & 1) == 1;
            boolean goesUp = twiceRest > unit || (twiceRest == unit && isBelowOdd);
            return goesUp ? below + 1 : below;
        }
    }

    /** A hold stands as long as it has a holder. */
    private static final class Hold {
        Account holder;
        int amount;

        void begin(Account newHolder, int newAmount) {
            holder = newHolder;
            amount = newAmount;
            newHolder.held += newAmount;
        }

        void end() {
            if (holder != null) {
                holder.held -= amount;
            }
            holder = null;
            amount = 0;
        }
    }

    private static final class Order {
        Account payer;
        Account payee;
        int amount;
        int day;
        int misses;
        boolean isDue;
        boolean isPaid;

        void make(Account newPayer, Account newPayee, int newAmount, int newDay) {
            payer = newPayer;
            payee = newPayee;
            amount = newAmount;
            day = newDay;
        }
    }

    /** The log and the fuse. What a line says is not kept: memory holds all that was ended. */
    private static final class Disk {
        static final int NO_FUSE = -1;
        private static final int ROOM = 24;

        boolean stopped;
        int writesMade;
        int writesLeft = NO_FUSE;
        int linesInLog;
        int transactionsInLog;
        private int changedInLog;

        /** Writes one line for each account that changes, and the end. */
        boolean writeTransaction(int changed) {
            return writeLines(changed, Integer.bitCount(changed) + 1);
        }

        /** True if the end was written; only then do the lines count as being in the log. */
        boolean writeLines(int changed, int lineCount) {
            if (linesInLog + lineCount > ROOM && !makeCheckpoint()) {
                return false;
            }
            for (int i = 0; i < lineCount; i++) {
                if (!writeOnce()) {
                    return false;
                }
            }
            linesInLog += lineCount;
            transactionsInLog++;
            changedInLog |= changed;
            return true;
        }

        private boolean makeCheckpoint() {
            int accountsChanged = Integer.bitCount(changedInLog);
            for (int i = 0; i < accountsChanged; i++) {
                if (!writeOnce()) {
                    return false;
                }
            }
            if (!writeOnce()) {
                return false;
            }
            linesInLog = 0;
            transactionsInLog = 0;
            changedInLog = 0;
            return true;
        }

        private boolean writeOnce() {
            if (writesLeft == 0) {
                stopped = true;
                return false;
            }
            if (writesLeft > 0) {
                writesLeft--;
            }
            writesMade++;
            return true;
        }
    }

    private static final class RestDays {
        private static final int MOST_MADE = 8;

        private final int[] dates = new int[MOST_MADE];
        private int datesMade;

        boolean isFull() {
            return datesMade >= MOST_MADE;
        }

        void add(int date) {
            if (!isFull()) {
                dates[datesMade] = date;
                datesMade++;
            }
        }

        boolean isRest(int date) {
            int dayOfWeek = date % 7;
            return dayOfWeek == 0 || dayOfWeek == 1 || wasMade(date);
        }

        private boolean wasMade(int date) {
            for (int i = 0; i < datesMade; i++) {
                if (dates[i] == date) {
                    return true;
                }
            }
            return false;
        }

        /** The date at which an order of this day is due in the month of a date. */
        int dueDate(int day, int date) {
            int dateBeforeFirst = date - Calendar.dayIn(Calendar.monthAndDay(date));
            // The 32nd date is in the next month, by as many dates as this one is shorter than 32.
            int length = 32 - Calendar.dayIn(Calendar.monthAndDay(dateBeforeFirst + 32));
            int wanted = Math.min(day, length);
            for (int i = wanted; i <= length; i++) {
                if (!isRest(dateBeforeFirst + i)) {
                    return dateBeforeFirst + i;
                }
            }
            for (int i = wanted - 1; i >= 1; i--) {
                if (!isRest(dateBeforeFirst + i)) {
                    return dateBeforeFirst + i;
                }
            }
            // Not reached: the rest days that can be made are too few to fill a month.
            return dateBeforeFirst + wanted;
        }
    }

    /** Dates of the Gregorian calendar as numbers, date 0 being the first of January 2000. */
    private static final class Calendar {
        private static final int BASES = 3;
        private static final int BASIS_OF_365 = 0;
        private static final int BASIS_OF_MONTHS = 2;
        private static final int FIRST_OF_MARCH_2000 = 60;
        private static final int DAYS_OF_400_YEARS = 146097;
        private static final int BITS_OF_DAY = 5;

        static boolean isBasis(int basis) {
            return 0 <= basis && basis < BASES;
        }

        static int yearOf(int basis) {
            return basis == BASIS_OF_365 ? 365 : 360;
        }

        static int dayCount(int basis, int from, int to) {
            return basis == BASIS_OF_MONTHS ? countByMonths(from, to) : to - from;
        }

        private static int countByMonths(int from, int to) {
            int first = monthAndDay(from);
            int last = monthAndDay(to);
            int firstDay = Math.min(dayIn(first), 30);
            int lastDay = dayIn(last);
            if (firstDay == 30 && lastDay == 31) {
                lastDay = 30;
            }
            return 30 * (monthIn(last) - monthIn(first)) + lastDay - firstDay;
        }

        static boolean isLastOfMonth(int date) {
            return dayIn(monthAndDay(date + 1)) == 1;
        }

        /** The month, counted from March 2000 as 0: the two before it are below 0. */
        static int monthIn(int monthAndDay) {
            return monthAndDay >> BITS_OF_DAY;
        }

        static int dayIn(int monthAndDay) {
            return monthAndDay & ((1 << BITS_OF_DAY) - 1);
        }

        /**
         * The month of a date and its day in it, in one number, so that no object is made for them.
         *
         * Years begin in March in here: the leap day is then the last of its year, and the months
         * begin on the same days of every year, every five of them having 153 days.
         */
        static int monthAndDay(int date) {
            int sinceMarch = date - FIRST_OF_MARCH_2000;
            int cycle = Math.floorDiv(sinceMarch, DAYS_OF_400_YEARS);
            int dayOfCycle = Math.floorMod(sinceMarch, DAYS_OF_400_YEARS);
            int leapDays = dayOfCycle / 1460 - dayOfCycle / 36524 + dayOfCycle / 146096;
            int year = (dayOfCycle - leapDays) / 365;
            int dayOfYear = dayOfCycle - (365 * year + year / 4 - year / 100);
            int month = (5 * dayOfYear + 2) / 153;
            int day = dayOfYear - (153 * month + 2) / 5 + 1;
            int monthFromMarch2000 = 4800 * cycle + 12 * year + month;
            return (monthFromMarch2000 << BITS_OF_DAY) + day;
        }
    }
}
