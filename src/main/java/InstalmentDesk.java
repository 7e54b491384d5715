import java.util.Arrays;
import java.util.NoSuchElementException;

/** An instalment tax desk; README.md tells how to use it. */
public final class InstalmentDesk {
    public static final int NONE = -1;

    private static final int FULL = -2;
    private static final int NO_SUCH_WHAT = NONE - 999999999;
    private static final int LAST_DAY = 499;
    private static final int LAST_INCOME_DAY = 364;
    private static final int MOST_AMOUNT = 99999;
    private static final int MOST_TAXED = 9999999;
    private static final int PERIODS = 4;
    private static final int RULES = 3;
    private static final int ALL_RULES = 7;

    private final Tape tape = new Tape();
    private final Reader reader = new Reader();
    private final Year year = new Year();
    // A text is read into a year of its own, so that a fault leaves the told one as it was.
    private final Year draft = new Year();
    private final Asked asked = new Asked();
    private final Account account = new Account();
    private final LateRows lateRows = new LateRows();
    private final Deeds deeds = new Deeds();
    private int latestFault;

    public InstalmentDesk() {
        latestFault = Reader.NO_FAULT;
    }

    public int feed(int a, int b, int c, int d, int e) {
        if (!tape.hasRoom()) {
            return NONE;
        }
        tape.append(a);
        tape.append(b);
        tape.append(c);
        tape.append(d);
        tape.append(e);
        return tape.length;
    }

    public boolean end(int n) {
        if (n < 0 || n > tape.length) {
            return false;
        }
        tape.length = n;
        return true;
    }

    public int text() {
        reader.read(tape, draft);
        tape.length = 0;
        latestFault = reader.faultKind;
        if (latestFault != Reader.NO_FAULT) {
            return -1 - reader.faultPlace;
        }
        year.takeOver(draft);
        deeds.count = 0;
        return reader.lines;
    }

    public int fault() {
        return latestFault;
    }

    public int now(int what) {
        switch (what) {
            case 0:
                return year.allIncome();
            case 1:
                return year.taxOf(year.allIncome());
            case 2:
                return year.paidUpTo(year.endDay);
            case 3:
                return year.taxOf(year.allIncome()) - year.paidUpTo(year.endDay);
            case 4:
                reckon();
                return account.costs(year, asked);
            case 5:
                return year.payments.count;
            case 6:
                return year.refunds.sumUpTo(LAST_DAY);
            case 7:
                reckon();
                lateRows.find(NONE, year, asked, account);
                return lateRows.count;
            case 8:
                return year.barred;
            case 9:
                return deeds.count;
            case 10:
                return tape.length;
            default:
                return NO_SUCH_WHAT;
        }
    }

    public int tax(int income) {
        return isWithin(income, 0, MOST_TAXED) ? year.taxOf(income) : NONE;
    }

    public int income(int day) {
        return isDay(day) ? year.incomes.sumUpTo(day) : NONE;
    }

    public int period(int period, int what) {
        if (!isPeriod(period)) {
            return NONE;
        }
        if (isRule(what)) {
            return year.sumBy(what, period);
        }
        asked.reckon(year, year.barred);
        switch (what) {
            case 3:
                return asked.leastOf(period);
            case 4:
                return asked.ruleOf(period);
            case 5:
                return asked.instalment(period);
            case 6:
                account.lay(year);
                return account.costOf(period, year, asked);
            case 7:
                return year.periods.first(period);
            case 8:
                return year.periods.second(period);
            case 9:
                return year.yearly(period);
            default:
                return NONE;
        }
    }

    public int unpaid(int period, int day) {
        if (!isPeriod(period) || !isDay(day)) {
            return NONE;
        }
        asked.reckon(year, year.barred);
        return asked.uncovered(period, year.paidUpTo(day));
    }

    public int free(int day) {
        if (!isDay(day)) {
            return NONE;
        }
        asked.reckon(year, year.barred);
        return freeOf(day, year.paidUpTo(day));
    }

    public int rate(int day) {
        return isDay(day) ? year.rates.latestUpTo(day) : NONE;
    }

    public int payment(int k, int what) {
        if (!year.payments.has(k)) {
            return NONE;
        }
        switch (what) {
            case 0:
                return year.payments.first(k);
            case 1:
                return year.payments.second(k);
            default:
                return NONE;
        }
    }

    public int late(int i, int what) throws NoSuchElementException {
        reckon();
        lateRows.find(i, year, asked, account);
        if (i < 0 || i >= lateRows.count) {
            throw new NoSuchElementException("no such late row");
        }
        switch (what) {
            case 0:
                return lateRows.instalment;
            case 1:
                return lateRows.firstDay;
            case 2:
                return lateRows.days;
            case 3:
                return lateRows.uncovered;
            case 4:
                return lateRows.dayRate;
            default:
                throw new NoSuchElementException("a late row has no such part");
        }
    }

    public int moved(int k, int day) {
        if (!year.payments.has(k) || !isDay(day)) {
            return NONE;
        }
        int amount = year.payments.second(k);
        reckon();
        account.addFrom(year.payments.first(k), -amount);
        account.addFrom(day, amount);
        return account.costs(year, asked);
    }

    public int were(int k, int amount) {
        if (!year.payments.has(k) || !isWithin(amount, 0, MOST_AMOUNT)) {
            return NONE;
        }
        reckon();
        account.addFrom(year.payments.first(k), amount - year.payments.second(k));
        return account.costs(year, asked);
    }

    public int barring(int rule) {
        if (!canTurn(rule)) {
            return NONE;
        }
        asked.reckon(year, year.barred ^ (1 << rule));
        account.lay(year);
        return account.costs(year, asked);
    }

    public int latest(int amount) {
        if (!isAmount(amount)) {
            return NONE;
        }
        reckon();
        int lowest = costsWith(0, amount);
        int sure = 0;
        int highest = year.endDay;
        // A later payment never costs less, so halving finds the last day; each round drops one day at least.
        for (int round = 0; round <= LAST_DAY && sure < highest; round++) {
            int middle = (sure + highest + 1) / 2;
            if (costsWith(middle, amount) <= lowest) {
                sure = middle;
            } else {
                highest = middle - 1;
            }
        }
        return sure;
    }

    public int clears(int day) {
        if (!isDay(day)) {
            return NONE;
        }
        asked.reckon(year, year.barred);
        return Math.max(0, asked.dueBy(year.endDay, year) - year.paidUpTo(day));
    }

    public int earn(int day, int amount) {
        if (!isWithin(day, 0, LAST_INCOME_DAY) || !isAmount(amount)) {
            return NONE;
        }
        if (year.incomes.isFull()) {
            return FULL;
        }
        year.incomes.add(day, amount);
        deeds.keep(Deeds.EARN);
        return year.allIncome();
    }

    public int pay(int day, int amount) {
        if (!isDay(day) || !isAmount(amount)) {
            return NONE;
        }
        if (year.payments.isFull()) {
            return FULL;
        }
        year.payments.add(day, amount);
        deeds.keep(Deeds.PAY);
        return year.payments.count - 1;
    }

    public int refund(int day, int amount) {
        if (!isWithin(day, 0, year.endDay) || !isAmount(amount)) {
            return NONE;
        }
        reckon();
        if (amount > leastFreeFrom(day)) {
            return NONE;
        }
        if (year.refunds.isFull()) {
            return FULL;
        }
        year.refunds.add(day, amount);
        deeds.keep(Deeds.REFUND);
        return freeOf(day, year.paidUpTo(day));
    }

    public int bar(int rule) {
        if (!canTurn(rule)) {
            return NONE;
        }
        year.barred ^= 1 << rule;
        deeds.keep(Deeds.BAR + rule);
        return year.barred;
    }

    public int undo() {
        int deed = deeds.takeLatest();
        switch (deed) {
            case Deeds.NOTHING:
                return NONE;
            case Deeds.EARN:
                year.incomes.dropLast();
                break;
            case Deeds.PAY:
                year.payments.dropLast();
                break;
            case Deeds.REFUND:
                year.refunds.dropLast();
                break;
            default:
                year.barred ^= 1 << (deed - Deeds.BAR);
                break;
        }
        return deeds.count;
    }

    private void reckon() {
        asked.reckon(year, year.barred);
        account.lay(year);
    }

    private int costsWith(int day, int amount) {
        account.addFrom(day, amount);
        int costs = account.costs(year, asked);
        account.addFrom(day, -amount);
        return costs;
    }

    private int freeOf(int day, int paid) {
        return Math.max(0, paid - asked.dueBy(day, year));
    }

    private int leastFreeFrom(int firstDay) {
        int least = freeOf(firstDay, account.paidAt(firstDay));
        for (int day = firstDay; day <= year.endDay && day <= LAST_DAY; day++) {
            least = Math.min(least, freeOf(day, account.paidAt(day)));
        }
        return least;
    }

    private boolean canTurn(int rule) {
        return isRule(rule) && (year.barred ^ (1 << rule)) != ALL_RULES;
    }

    private static boolean isWithin(int number, int low, int high) {
        return number >= low && number <= high;
    }

    private static boolean isDay(int day) {
        return isWithin(day, 0, LAST_DAY);
    }

    private static boolean isAmount(int amount) {
        return isWithin(amount, 1, MOST_AMOUNT);
    }

    private static boolean isPeriod(int period) {
        return isWithin(period, 0, PERIODS - 1);
    }

    private static boolean isRule(int rule) {
        return isWithin(rule, 0, RULES - 1);
    }

    /** The bytes that were fed and not yet read. */
    private static final class Tape {
        static final int MOST = 840;
        static final int FEED = 20;

        final byte[] bytes = new byte[MOST];
        int length;

        boolean hasRoom() {
            return length + FEED <= bytes.length;
        }

        void append(int four) {
            for (int shift = 24; shift >= 0; shift -= 8) {
                if (length >= 0 && length < bytes.length) {
                    bytes[length] = (byte) (four >>> shift);
                    length++;
                }
            }
        }

        int at(int place) {
            return place >= 0 && place < length && place < bytes.length ? bytes[place] & 255 : 0;
        }
    }

    /** Rows of two numbers, kept in the order in which they were told. */
    private static final class Rows {
        final int[] firsts;
        final int[] seconds;
        int count;

        Rows(int most) {
            int size = Math.max(0, most);
            firsts = new int[size];
            seconds = new int[size];
        }

        boolean isFull() {
            return count >= firsts.length;
        }

        boolean has(int i) {
            return i >= 0 && i < count;
        }

        int first(int i) {
            return i >= 0 && i < count && i < firsts.length ? firsts[i] : 0;
        }

        int second(int i) {
            return i >= 0 && i < count && i < seconds.length ? seconds[i] : 0;
        }

        int lastFirst() {
            return count > 0 ? first(count - 1) : NONE;
        }

        int lastSecond() {
            return count > 0 ? second(count - 1) : NONE;
        }

        void add(int first, int second) {
            if (count >= 0 && count < firsts.length && count < seconds.length) {
                firsts[count] = first;
                seconds[count] = second;
                count++;
            }
        }

        void dropLast() {
            count = Math.max(0, count - 1);
        }

        int sumUpTo(int most) {
            int sum = 0;
            for (int i = 0; i < count && i < firsts.length && i < seconds.length; i++) {
                if (firsts[i] <= most) {
                    sum += seconds[i];
                }
            }
            return sum;
        }

        /** Of rows whose firsts go up. */
        int latestUpTo(int most) {
            int latest = 0;
            for (int i = 0; i < count && i < firsts.length && i < seconds.length; i++) {
                if (firsts[i] <= most) {
                    latest = seconds[i];
                }
            }
            return latest;
        }

        void takeOver(Rows other) {
            count = 0;
            for (int i = 0; i < other.count; i++) {
                add(other.first(i), other.second(i));
            }
        }
    }

    /** All that was told of a year; without its rows it stands as at first. */
    private static final class Year {
        static final int MOST_STEPS = 4;
        static final int MOST_RATES = 6;
        static final int MOST_INCOMES = 40;
        static final int MOST_PAYMENTS = 40;
        static final int MOST_REFUNDS = 20;
        static final int DAYS = 365;

        final Rows periods = new Rows(PERIODS);
        final Rows steps = new Rows(MOST_STEPS);
        final Rows rates = new Rows(MOST_RATES);
        final Rows incomes = new Rows(MOST_INCOMES);
        final Rows payments = new Rows(MOST_PAYMENTS);
        final Rows refunds = new Rows(MOST_REFUNDS);
        int prior;
        int credit;
        int endDay;
        int shareOfThis;
        int shareOfPrior;
        boolean overTold;
        int overRate;
        int barred;

        void forget() {
            periods.count = 0;
            steps.count = 0;
            rates.count = 0;
            incomes.count = 0;
            payments.count = 0;
            refunds.count = 0;
            prior = 0;
            credit = 0;
            endDay = 0;
            shareOfThis = 0;
            shareOfPrior = 0;
            overTold = false;
            overRate = 0;
            barred = 0;
        }

        void takeOver(Year other) {
            periods.takeOver(other.periods);
            steps.takeOver(other.steps);
            rates.takeOver(other.rates);
            incomes.takeOver(other.incomes);
            payments.takeOver(other.payments);
            refunds.takeOver(other.refunds);
            prior = other.prior;
            credit = other.credit;
            endDay = other.endDay;
            shareOfThis = other.shareOfThis;
            shareOfPrior = other.shareOfPrior;
            overTold = other.overTold;
            overRate = other.overRate;
            barred = other.barred;
        }

        int taxOf(int income) {
            long hundredths = 0;
            int taxed = 0;
            for (int i = 0; i < steps.count; i++) {
                int upper = Math.min(income, steps.first(i));
                hundredths += (long) (upper - taxed) * steps.second(i);
                taxed = upper;
            }
            hundredths += (long) (income - taxed) * overRate;
            return (int) (hundredths / 100);
        }

        int allIncome() {
            return incomes.sumUpTo(LAST_DAY);
        }

        int yearly(int period) {
            int cut = periods.second(period);
            int days = cut + 1;
            return days < 1 ? 0 : (int) ((long) incomes.sumUpTo(cut) * DAYS / days);
        }

        int sumBy(int rule, int period) {
            long whole;
            if (rule == 0) {
                whole = (long) taxOf(allIncome()) * shareOfThis;
            } else if (rule == 1) {
                whole = (long) prior * shareOfPrior;
            } else {
                whole = (long) taxOf(yearly(period)) * shareOfThis;
            }
            return (int) (whole * (period + 1) / (PERIODS * 100));
        }

        int paidUpTo(int day) {
            return credit + payments.sumUpTo(day) - refunds.sumUpTo(day);
        }
    }

    /** What the instalments of a year ask for, by the rules that are not barred. */
    private static final class Asked {
        final int[] leasts = new int[PERIODS];
        final int[] leastRules = new int[PERIODS];
        // All instalments up to this one, itself too.
        final int[] throughs = new int[PERIODS];

        void reckon(Year year, int barred) {
            int through = 0;
            for (int period = 0; period < PERIODS; period++) {
                chooseLeast(year, barred, period);
                through = Math.max(through, leastOf(period));
                if (period < throughs.length) {
                    throughs[period] = through;
                }
            }
        }

        private void chooseLeast(Year year, int barred, int period) {
            int least = 0;
            int chosen = NONE;
            for (int rule = 0; rule < RULES; rule++) {
                if ((barred >> rule & 1) == 0) {
                    int sum = year.sumBy(rule, period);
                    if (chosen == NONE || sum < least) {
                        least = sum;
                        chosen = rule;
                    }
                }
            }
            if (period >= 0 && period < leasts.length && period < leastRules.length) {
                leasts[period] = least;
                leastRules[period] = chosen;
            }
        }

        int leastOf(int period) {
            return period >= 0 && period < leasts.length ? leasts[period] : 0;
        }

        int ruleOf(int period) {
            return period >= 0 && period < leastRules.length ? leastRules[period] : 0;
        }

        int through(int period) {
            return period >= 0 && period < throughs.length ? throughs[period] : 0;
        }

        int instalment(int period) {
            return through(period) - through(period - 1);
        }

        int uncovered(int period, int paid) {
            return Math.max(0, Math.min(instalment(period), through(period) - paid));
        }

        int dueBy(int day, Year year) {
            int due = 0;
            for (int period = 0; period < PERIODS; period++) {
                if (year.periods.first(period) <= day) {
                    due += instalment(period);
                }
            }
            return due;
        }
    }

    /** What is paid and which rate holds, day by day. */
    private static final class Account {
        static final int COST_PARTS = 100000;

        final int[] paid = new int[LAST_DAY + 1];
        final int[] dayRates = new int[LAST_DAY + 1];

        void lay(Year year) {
            Arrays.fill(paid, 0);
            mark(year.payments, 1);
            mark(year.refunds, -1);
            int sum = year.credit;
            for (int day = 0; day < paid.length; day++) {
                sum += paid[day];
                paid[day] = sum;
            }
            layRates(year.rates);
        }

        private void mark(Rows rows, int sign) {
            for (int i = 0; i < rows.count; i++) {
                int day = rows.first(i);
                if (day >= 0 && day < paid.length) {
                    paid[day] += sign * rows.second(i);
                }
            }
        }

        private void layRates(Rows rates) {
            int next = 0;
            int latest = 0;
            for (int day = 0; day < dayRates.length; day++) {
                if (rates.has(next) && rates.first(next) == day) {
                    latest = rates.second(next);
                    next++;
                }
                dayRates[day] = latest;
            }
        }

        void addFrom(int firstDay, int amount) {
            for (int day = Math.max(0, firstDay); day < paid.length; day++) {
                paid[day] += amount;
            }
        }

        int paidAt(int day) {
            return day >= 0 && day < paid.length ? paid[day] : 0;
        }

        int rateAt(int day) {
            return day >= 0 && day < dayRates.length ? dayRates[day] : 0;
        }

        int costOf(int period, Year year, Asked asked) {
            int own = asked.instalment(period);
            int through = asked.through(period);
            long parts = 0;
            for (int day = year.periods.first(period); day < year.endDay && day <= LAST_DAY; day++) {
                long uncovered = Math.max(0, Math.min(own, through - paidAt(day)));
                parts += uncovered * rateAt(day);
            }
            return (int) (parts / COST_PARTS);
        }

        int costs(Year year, Asked asked) {
            int sum = 0;
            for (int period = 0; period < PERIODS; period++) {
                sum += costOf(period, year, asked);
            }
            return sum;
        }
    }

    /** Counts the late rows and keeps the parts of the one that is looked for. */
    private static final class LateRows {
        int count;
        int instalment;
        int firstDay;
        int days;
        int uncovered;
        int dayRate;

        void find(int wanted, Year year, Asked asked, Account account) {
            count = 0;
            days = 0;
            for (int period = 0; period < PERIODS; period++) {
                walk(period, wanted, year, asked, account);
            }
        }

        private void walk(int period, int wanted, Year year, Asked asked, Account account) {
            int before = 0;
            int rateBefore = 0;
            for (int day = year.periods.first(period); day < year.endDay && day <= LAST_DAY; day++) {
                int open = asked.uncovered(period, account.paidAt(day));
                int rateNow = account.rateAt(day);
                if (open > 0) {
                    // Nothing is open ahead of the first day, so that day begins a row by itself.
                    if (open != before || rateNow != rateBefore) {
                        count++;
                        if (count - 1 == wanted) {
                            begin(period, day, open, rateNow);
                        }
                    }
                    if (count - 1 == wanted) {
                        days++;
                    }
                }
                before = open;
                rateBefore = rateNow;
            }
        }

        private void begin(int period, int day, int open, int rateNow) {
            instalment = period;
            firstDay = day;
            uncovered = open;
            dayRate = rateNow;
        }
    }

    /** What can be undone, the latest last. */
    private static final class Deeds {
        static final int NOTHING = -1;
        static final int EARN = 0;
        static final int PAY = 1;
        static final int REFUND = 2;
        // This and the rule's number.
        static final int BAR = 3;
        static final int MOST = 12;

        final int[] kinds = new int[MOST];
        int count;

        void keep(int kind) {
            if (count >= kinds.length) {
                forgetOldest();
            }
            if (count >= 0 && count < kinds.length) {
                kinds[count] = kind;
                count++;
            }
        }

        private void forgetOldest() {
            for (int i = 1; i < kinds.length; i++) {
                kinds[i - 1] = kinds[i];
            }
            count = kinds.length - 1;
        }

        int takeLatest() {
            if (count < 1 || count > kinds.length) {
                return NOTHING;
            }
            count--;
            return kinds[count];
        }
    }

    /** Reads a tape as a text, up to the first fault. */
    private static final class Reader {
        static final int NO_FAULT = 0;
        static final int CANNOT_COME = 1;
        static final int NOT_AS_TOLD = 2;
        static final int TOO_MANY = 3;

        static final int MOST_BYTES = 800;
        static final int MOST_DIGITS = 5;
        static final int MOST_NUMBERS = 3;
        static final int MOST_TOLD = 20;
        // The year, its periods, the shares.
        static final int LINES_THAT_MUST_BE = 6;

        static final int STOP = 0;
        static final int WORD = 1;
        static final int NUMBER = 2;
        static final int SEMICOLON = 3;
        static final int NO_TOKEN = 4;

        static final int NO_SORT = -1;
        static final int YEAR = 0;
        static final int PERIOD = 1;
        static final int SHARE = 2;
        static final int UPTO = 3;
        static final int OVER = 4;
        static final int RATE = 5;
        static final int INCOME = 6;
        static final int PAY = 7;
        static final int SORTS = 8;

        final int[] numbers = new int[MOST_NUMBERS];
        int lines;
        int faultKind;
        int faultPlace;
        private int place;
        private int start;
        private int token;
        private int value;

        void read(Tape tape, Year draft) {
            draft.forget();
            lines = 0;
            faultKind = NO_FAULT;
            faultPlace = 0;
            place = 0;
            // A line has more than one byte, so the text ends well within this.
            for (int round = 0; round <= MOST_BYTES && faultKind == NO_FAULT; round++) {
                readToken(tape);
                if (token == STOP) {
                    checkStop(tape);
                    return;
                }
                readLine(tape, draft);
            }
        }

        private void checkStop(Tape tape) {
            boolean tooLong = tape.length > MOST_BYTES;
            // Without any line the text is an empty one, also where its bytes are blanks.
            boolean linesLack = lines > 0 && lines < LINES_THAT_MUST_BE;
            if (tooLong || linesLack) {
                fail(CANNOT_COME);
            }
        }

        private void readLine(Tape tape, Year draft) {
            int sort = token == WORD ? sortOfWord(tape) : NO_SORT;
            if (!canCome(sort)) {
                fail(CANNOT_COME);
                return;
            }
            if (hasAllOf(sort, draft)) {
                fail(TOO_MANY);
                return;
            }
            int many = numbersOf(sort);
            for (int i = 0; i < many && i < MOST_NUMBERS && faultKind == NO_FAULT; i++) {
                readToken(tape);
                takeNumber(sort, i, draft);
            }
            if (faultKind == NO_FAULT) {
                readToken(tape);
                closeLine(sort, draft);
            }
        }

        private void takeNumber(int sort, int i, Year draft) {
            if (token != NUMBER) {
                fail(CANNOT_COME);
            } else if (value < lowest(sort, i, draft) || value > highest(sort, i, draft)) {
                fail(NOT_AS_TOLD);
            } else if (i >= 0 && i < numbers.length) {
                numbers[i] = value;
            }
        }

        private void closeLine(int sort, Year draft) {
            if (token != SEMICOLON) {
                fail(CANNOT_COME);
                return;
            }
            tell(sort, draft);
            lines++;
        }

        private void fail(int kind) {
            faultKind = kind;
            faultPlace = start;
        }

        private void readToken(Tape tape) {
            // Tokens begin within the text alone, but go on as far as the tape does.
            int stop = Math.min(tape.length, MOST_BYTES);
            while (place < stop && isBlank(tape.at(place))) {
                place++;
            }
            if (place >= stop) {
                start = stop;
                token = STOP;
                return;
            }
            start = place;
            if (tape.at(place) == ';') {
                place++;
                token = SEMICOLON;
            } else {
                readRun(tape);
            }
        }

        private void readRun(Tape tape) {
            int letters = 0;
            int digits = 0;
            value = 0;
            while (place < tape.length && (isLetter(tape.at(place)) || isDigit(tape.at(place)))) {
                int sign = tape.at(place);
                if (isLetter(sign)) {
                    letters++;
                } else {
                    digits++;
                    value = value * 10 + (sign - '0');
                }
                place++;
            }
            if (letters > 0 && digits == 0) {
                token = WORD;
            } else if (letters == 0 && digits > 0 && digits <= MOST_DIGITS) {
                token = NUMBER;
            } else {
                token = NO_TOKEN;
            }
        }

        private static boolean isBlank(int sign) {
            return sign == 32 || sign == 10;
        }

        private static boolean isLetter(int sign) {
            return sign >= 'a' && sign <= 'z';
        }

        private static boolean isDigit(int sign) {
            return sign >= '0' && sign <= '9';
        }

        private int sortOfWord(Tape tape) {
            for (int sort = 0; sort < SORTS; sort++) {
                if (isWord(wordOf(sort), tape)) {
                    return sort;
                }
            }
            return NO_SORT;
        }

        private boolean isWord(String word, Tape tape) {
            if (word.length() != place - start) {
                return false;
            }
            for (int i = 0; i < word.length(); i++) {
                if (word.charAt(i) != tape.at(start + i)) {
                    return false;
                }
            }
            return true;
        }

        private static String wordOf(int sort) {
            switch (sort) {
                case YEAR:
                    return "year";
                case PERIOD:
                    return "period";
                case SHARE:
                    return "share";
                case UPTO:
                    return "upto";
                case OVER:
                    return "over";
                case RATE:
                    return "rate";
                case INCOME:
                    return "income";
                case PAY:
                    return "pay";
                default:
                    return "";
            }
        }

        private boolean canCome(int sort) {
            if (lines == 0) {
                return sort == YEAR;
            }
            if (lines <= PERIODS) {
                return sort == PERIOD;
            }
            if (lines < LINES_THAT_MUST_BE) {
                return sort == SHARE;
            }
            return sort >= UPTO;
        }

        private static boolean hasAllOf(int sort, Year draft) {
            switch (sort) {
                case UPTO:
                    return draft.steps.isFull();
                case OVER:
                    return draft.overTold;
                case RATE:
                    return draft.rates.isFull();
                case INCOME:
                    return draft.incomes.count >= MOST_TOLD;
                case PAY:
                    return draft.payments.count >= MOST_TOLD;
                default:
                    return false;
            }
        }

        private static int numbersOf(int sort) {
            switch (sort) {
                case YEAR:
                    return 3;
                case OVER:
                    return 1;
                default:
                    return 2;
            }
        }

        private static int lowest(int sort, int i, Year draft) {
            switch (sort) {
                case PERIOD:
                    return 1 + (i == 0 ? draft.periods.lastFirst() : draft.periods.lastSecond());
                case UPTO:
                    return i == 0 ? Math.max(1, 1 + draft.steps.lastFirst()) : 0;
                case RATE:
                    return i == 0 ? 1 + draft.rates.lastFirst() : 0;
                case INCOME:
                case PAY:
                    return i == 0 ? 0 : 1;
                default:
                    return 0;
            }
        }

        private static int highest(int sort, int i, Year draft) {
            switch (sort) {
                case YEAR:
                    return i < 2 ? MOST_AMOUNT : LAST_DAY;
                case PERIOD:
                    return i == 0 ? draft.endDay : LAST_INCOME_DAY;
                case SHARE:
                    return 100;
                case UPTO:
                    return i == 0 ? MOST_AMOUNT : 99;
                case OVER:
                    return 99;
                case RATE:
                    return i == 0 ? LAST_DAY : 99;
                case INCOME:
                    return i == 0 ? LAST_INCOME_DAY : MOST_AMOUNT;
                case PAY:
                    return i == 0 ? LAST_DAY : MOST_AMOUNT;
                default:
                    return 0;
            }
        }

        private int number(int i) {
            return i >= 0 && i < numbers.length ? numbers[i] : 0;
        }

        private void tell(int sort, Year draft) {
            switch (sort) {
                case YEAR:
                    draft.prior = number(0);
                    draft.credit = number(1);
                    draft.endDay = number(2);
                    break;
                case PERIOD:
                    draft.periods.add(number(0), number(1));
                    break;
                case SHARE:
                    draft.shareOfThis = number(0);
                    draft.shareOfPrior = number(1);
                    break;
                case UPTO:
                    draft.steps.add(number(0), number(1));
                    break;
                case OVER:
                    draft.overTold = true;
                    draft.overRate = number(0);
                    break;
                case RATE:
                    draft.rates.add(number(0), number(1));
                    break;
                case INCOME:
                    draft.incomes.add(number(0), number(1));
                    break;
                case PAY:
                    draft.payments.add(number(0), number(1));
                    break;
                default:
                    break;
            }
        }
    }
}
