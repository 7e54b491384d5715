import java.io.ByteArrayOutputStream;
import java.nio.charset.StandardCharsets;
import java.util.ArrayList;
import java.util.List;
import java.util.TreeMap;
import java.util.regex.Matcher;
import java.util.regex.Pattern;

/** The document once more, said as plainly as can be with the whole Java library; slow, and for comparing only. */
final class PlainDesk {
    private static final Pattern TOKEN = Pattern.compile("[a-z0-9]+|[^ \n]");

    private ByteArrayOutputStream tape = new ByteArrayOutputStream();
    private int faultKind;
    private State state = new State();
    private final List<State> before = new ArrayList<>();

    private static final class State {
        long prior;
        long credit;
        int end;
        long shareA;
        long shareB;
        Long over;
        long[] due = new long[4];
        long[] cut = new long[4];
        int barred;
        TreeMap<Integer, Integer> steps = new TreeMap<>();
        TreeMap<Integer, Integer> rates = new TreeMap<>();
        List<int[]> incomes = new ArrayList<>();
        List<int[]> payments = new ArrayList<>();
        List<int[]> refunds = new ArrayList<>();

        State copy() {
            State copy = new State();
            copy.prior = prior;
            copy.credit = credit;
            copy.end = end;
            copy.shareA = shareA;
            copy.shareB = shareB;
            copy.over = over;
            copy.due = due.clone();
            copy.cut = cut.clone();
            copy.barred = barred;
            copy.steps.putAll(steps);
            copy.rates.putAll(rates);
            copy.incomes.addAll(incomes);
            copy.payments.addAll(payments);
            copy.refunds.addAll(refunds);
            return copy;
        }

        long upTo(List<int[]> rows, long day) {
            return rows.stream().filter(row -> row[0] <= day).mapToLong(row -> row[1]).sum();
        }

        long tax(long income) {
            long sum = 0;
            long from = 0;
            for (var step : steps.entrySet()) {
                sum += Math.max(0, Math.min(income, step.getKey()) - from) * step.getValue();
                from = step.getKey();
            }
            sum += Math.max(0, income - from) * (over == null ? 0 : over);
            return sum / 100;
        }

        long yearly(int p) {
            return upTo(incomes, cut[p]) * 365 / (cut[p] + 1);
        }

        long sum(int p, int rule) {
            long[] whole = {tax(upTo(incomes, 999)) * shareA, prior * shareB, tax(yearly(p)) * shareA};
            return whole[rule] * (p + 1) / 400;
        }

        int leastRule(int p) {
            int best = -1;
            for (int rule = 2; rule >= 0; rule--) {
                boolean isBarred = (barred & 1 << rule) != 0;
                if (!isBarred && (best < 0 || sum(p, rule) <= sum(p, best))) {
                    best = rule;
                }
            }
            return best;
        }

        long[] instalments() {
            long[] all = new long[4];
            long ahead = 0;
            for (int p = 0; p < 4; p++) {
                all[p] = Math.max(0, sum(p, leastRule(p)) - ahead);
                ahead += all[p];
            }
            return all;
        }

        long paid(int day) {
            return credit + upTo(payments, day) - upTo(refunds, day);
        }

        long unpaid(long[] instalments, int p, int day) {
            long left = Math.max(0, paid(day));
            for (int q = 0; q < p; q++) {
                left -= Math.min(left, instalments[q]);
            }
            return instalments[p] - Math.min(left, instalments[p]);
        }

        long rate(int day) {
            var entry = rates.floorEntry(day);
            return entry == null ? 0 : entry.getValue();
        }

        long cost(int p) {
            long[] instalments = instalments();
            long sum = 0;
            for (int day = (int) due[p]; day < end; day++) {
                sum += unpaid(instalments, p, day) * rate(day);
            }
            return sum / 100000;
        }

        long costs() {
            return cost(0) + cost(1) + cost(2) + cost(3);
        }

        long free(int day) {
            long[] instalments = instalments();
            long owed = 0;
            for (int p = 0; p < 4; p++) {
                owed += due[p] <= day ? instalments[p] : 0;
            }
            return Math.max(0, paid(day) - owed);
        }

        List<long[]> lateRows() {
            List<long[]> rows = new ArrayList<>();
            long[] instalments = instalments();
            for (int p = 0; p < 4; p++) {
                long[] open = null;
                for (int day = (int) due[p]; day < end; day++) {
                    long unpaid = unpaid(instalments, p, day);
                    if (open != null && open[3] == unpaid && open[4] == rate(day)) {
                        open[2]++;
                    } else if (unpaid > 0) {
                        open = new long[] {p, day, 1, unpaid, rate(day)};
                        rows.add(open);
                    } else {
                        open = null;
                    }
                }
            }
            return rows;
        }
    }

    private static final class Fault extends Exception {
        private static final long serialVersionUID = 1;
        final int kind;
        final int place;

        Fault(int kind, int place) {
            super("fault");
            this.kind = kind;
            this.place = place;
        }
    }

    long feed(int... words) {
        if (tape.size() + 20 > 840) {
            return -1;
        }
        for (int word : words) {
            tape.write(word >> 24);
            tape.write(word >> 16);
            tape.write(word >> 8);
            tape.write(word);
        }
        return tape.size();
    }

    long end(int n) {
        if (n < 0 || n > tape.size()) {
            return 0;
        }
        byte[] bytes = tape.toByteArray();
        tape.reset();
        tape.write(bytes, 0, n);
        return 1;
    }

    long text() {
        String text = tape.toString(StandardCharsets.ISO_8859_1);
        tape.reset();
        try {
            State read = new State();
            int lines = read(text, read);
            faultKind = 0;
            state = read;
            before.clear();
            return lines;
        } catch (Fault fault) {
            faultKind = fault.kind;
            return -1 - fault.place;
        }
    }

    private static int read(String text, State read) throws Fault {
        Matcher tokens = TOKEN.matcher(text);
        int stop = Math.min(800, text.length());
        int lines = 0;
        int incomes = 0;
        int payments = 0;
        while (true) {
            if (!tokens.find() || tokens.start() >= stop) {
                if (lines != 0 && lines < 6 || text.length() > 800) {
                    throw new Fault(1, stop);
                }
                return lines;
            }
            String word = tokens.group();
            String may = lines == 0 ? "year" : lines <= 4 ? "period" : lines == 5 ? "share" : "upto|over|rate|income|pay";
            if (!word.matches(may)) {
                throw new Fault(1, tokens.start());
            }
            if (word.equals("over") && read.over != null || word.equals("upto") && read.steps.size() == 4
                || word.equals("rate") && read.rates.size() == 6 || word.equals("income") && incomes == 20
                || word.equals("pay") && payments == 20) {
                throw new Fault(3, tokens.start());
            }
            int p = lines - 1;
            switch (word) {
                case "year":
                    read.prior = number(tokens, stop, 0, 99999);
                    read.credit = number(tokens, stop, 0, 99999);
                    read.end = number(tokens, stop, 0, 499);
                    break;
                case "period":
                    read.due[p] = number(tokens, stop, p == 0 ? 0 : (int) read.due[p - 1] + 1, read.end);
                    read.cut[p] = number(tokens, stop, p == 0 ? 0 : (int) read.cut[p - 1] + 1, 364);
                    break;
                case "share":
                    read.shareA = number(tokens, stop, 0, 100);
                    read.shareB = number(tokens, stop, 0, 100);
                    break;
                case "upto":
                    int limit = number(tokens, stop, read.steps.isEmpty() ? 1 : read.steps.lastKey() + 1, 99999);
                    read.steps.put(limit, number(tokens, stop, 0, 99));
                    break;
                case "over":
                    read.over = (long) number(tokens, stop, 0, 99);
                    break;
                case "rate":
                    int from = number(tokens, stop, read.rates.isEmpty() ? 0 : read.rates.lastKey() + 1, 499);
                    read.rates.put(from, number(tokens, stop, 0, 99));
                    break;
                case "income":
                    incomes++;
                    read.incomes.add(new int[] {number(tokens, stop, 0, 364), number(tokens, stop, 1, 99999)});
                    break;
                default:
                    payments++;
                    read.payments.add(new int[] {number(tokens, stop, 0, 499), number(tokens, stop, 1, 99999)});
                    break;
            }
            if (!tokens.find() || tokens.start() >= stop) {
                throw new Fault(1, stop);
            }
            if (!tokens.group().equals(";")) {
                throw new Fault(1, tokens.start());
            }
            lines++;
        }
    }

    private static int number(Matcher tokens, int stop, int low, int high) throws Fault {
        if (!tokens.find() || tokens.start() >= stop) {
            throw new Fault(1, stop);
        }
        if (!tokens.group().matches("[0-9]{1,5}")) {
            throw new Fault(1, tokens.start());
        }
        int number = Integer.parseInt(tokens.group());
        if (number < low || number > high) {
            throw new Fault(2, tokens.start());
        }
        return number;
    }

    long fault() {
        return faultKind;
    }

    long now(int what) {
        long income = state.upTo(state.incomes, 999);
        switch (what) {
            case 0: return income;
            case 1: return state.tax(income);
            case 2: return state.paid(state.end);
            case 3: return state.tax(income) - state.paid(state.end);
            case 4: return state.costs();
            case 5: return state.payments.size();
            case 6: return state.upTo(state.refunds, 999);
            case 7: return state.lateRows().size();
            case 8: return state.barred;
            case 9: return before.size();
            case 10: return tape.size();
            default: return -1000000000;
        }
    }

    long tax(int income) {
        return income < 0 || income > 9999999 ? -1 : state.tax(income);
    }

    long income(int day) {
        return isNoDay(day) ? -1 : state.upTo(state.incomes, day);
    }

    long period(int p, int what) {
        if (p < 0 || p > 3) {
            return -1;
        }
        switch (what) {
            case 0: case 1: case 2: return state.sum(p, what);
            case 3: return state.sum(p, state.leastRule(p));
            case 4: return state.leastRule(p);
            case 5: return state.instalments()[p];
            case 6: return state.cost(p);
            case 7: return state.due[p];
            case 8: return state.cut[p];
            case 9: return state.yearly(p);
            default: return -1;
        }
    }

    long unpaid(int p, int day) {
        return p < 0 || p > 3 || isNoDay(day) ? -1 : state.unpaid(state.instalments(), p, day);
    }

    long free(int day) {
        return isNoDay(day) ? -1 : state.free(day);
    }

    long rate(int day) {
        return isNoDay(day) ? -1 : state.rate(day);
    }

    long payment(int k, int what) {
        return isNoPayment(k) || what < 0 || what > 1 ? -1 : state.payments.get(k)[what];
    }

    long late(int i, int what) {
        List<long[]> rows = state.lateRows();
        return i < 0 || i >= rows.size() || what < 0 || what > 4 ? Checks.THROWS : rows.get(i)[what];
    }

    long moved(int k, int day) {
        if (isNoPayment(k) || isNoDay(day)) {
            return -1;
        }
        State other = state.copy();
        other.payments.set(k, new int[] {day, state.payments.get(k)[1]});
        return other.costs();
    }

    long were(int k, int amount) {
        if (isNoPayment(k) || amount < 0 || amount > 99999) {
            return -1;
        }
        State other = state.copy();
        other.payments.set(k, new int[] {state.payments.get(k)[0], amount});
        return other.costs();
    }

    long barring(int rule) {
        if (rule < 0 || rule > 2) {
            return -1;
        }
        State other = state.copy();
        other.barred ^= 1 << rule;
        return other.barred == 7 ? -1 : other.costs();
    }

    long latest(int amount) {
        if (amount < 1 || amount > 99999) {
            return -1;
        }
        long lowest = costsWith(0, amount);
        int day = state.end;
        while (costsWith(day, amount) != lowest) {
            day--;
        }
        return day;
    }

    private long costsWith(int day, int amount) {
        State other = state.copy();
        other.payments.add(new int[] {day, amount});
        return other.costs();
    }

    long clears(int day) {
        if (isNoDay(day)) {
            return -1;
        }
        long[] all = state.instalments();
        return Math.max(0, all[0] + all[1] + all[2] + all[3] - state.paid(day));
    }

    long earn(int day, int amount) {
        if (day < 0 || day > 364 || isNoAmount(amount)) {
            return -1;
        }
        if (state.incomes.size() == 40) {
            return -2;
        }
        keep();
        state.incomes.add(new int[] {day, amount});
        return now(0);
    }

    long pay(int day, int amount) {
        if (isNoDay(day) || isNoAmount(amount)) {
            return -1;
        }
        if (state.payments.size() == 40) {
            return -2;
        }
        keep();
        state.payments.add(new int[] {day, amount});
        return state.payments.size() - 1;
    }

    long refund(int day, int amount) {
        if (day < 0 || day > state.end || isNoAmount(amount)) {
            return -1;
        }
        for (int d = day; d <= state.end; d++) {
            if (state.free(d) < amount) {
                return -1;
            }
        }
        if (state.refunds.size() == 20) {
            return -2;
        }
        keep();
        state.refunds.add(new int[] {day, amount});
        return state.free(day);
    }

    long bar(int rule) {
        if (rule < 0 || rule > 2 || (state.barred ^ 1 << rule) == 7) {
            return -1;
        }
        keep();
        state.barred ^= 1 << rule;
        return state.barred;
    }

    long undo() {
        if (before.isEmpty()) {
            return -1;
        }
        state = before.remove(before.size() - 1);
        return before.size();
    }

    private void keep() {
        before.add(state.copy());
        if (before.size() > 12) {
            before.remove(0);
        }
    }

    private boolean isNoPayment(int k) {
        return k < 0 || k >= state.payments.size();
    }

    private static boolean isNoDay(int day) {
        return day < 0 || day > 499;
    }

    private static boolean isNoAmount(int amount) {
        return amount < 1 || amount > 99999;
    }
}
