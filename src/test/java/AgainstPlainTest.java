import java.nio.charset.StandardCharsets;
import java.util.Random;

/** Random runs of calls, each answered by InstalmentDesk as by PlainDesk; the seeds are written down, so all runs are alike. */
public final class AgainstPlainTest {
    private static final int RUNS = 300;
    private static final int CALLS = 500;
    private static final int[] ODD = {-1, 0, 1, 499, 500, 364, 365, 99999, 100000, 9999999, 10000000,
        Integer.MIN_VALUE, Integer.MAX_VALUE};

    private final Checks checks;
    private final Random random;
    private final InstalmentDesk desk = new InstalmentDesk();
    private final PlainDesk plain = new PlainDesk();
    private final int seed;

    private AgainstPlainTest(Checks checks, int seed) {
        this.checks = checks;
        this.seed = seed;
        this.random = new Random(seed);
    }

    public static void main(String[] args) {
        Checks checks = new Checks();
        int first = args.length > 0 ? Integer.parseInt(args[0]) : 1;
        int runs = args.length > 1 ? Integer.parseInt(args[1]) : RUNS;
        for (int seed = first; seed < first + runs; seed++) {
            new AgainstPlainTest(checks, seed).run();
        }
        checks.close("AgainstPlainTest");
    }

    private void run() {
        // Some runs begin without a text.
        int calls = seed % 8 == 0 ? 0 : tellText();
        while (calls < CALLS) {
            calls += random.nextInt(60) == 0 ? tellText() : 1;
            oneCall();
        }
    }

    private void answer(String call, long got, long want) {
        checks.due("seed " + seed + ": " + call, got, want);
    }

    private int tellText() {
        String text = random.nextInt(3) == 0 ? spoilt(goodText()) : goodText();
        if (random.nextInt(15) == 0) {
            text = Checks.padded(random.nextBoolean() ? "" : "\n", 1 + random.nextInt(30));
        }
        if (random.nextInt(12) == 0 && text.length() < 830) {
            text = Checks.padded(text, Math.max(text.length(), 790 + random.nextInt(30)));
        }
        byte[] bytes = text.getBytes(StandardCharsets.ISO_8859_1);
        int calls = 2;
        for (int from = 0; from < bytes.length; from += 20) {
            int[] w = new int[5];
            for (int i = 0; i < 20; i++) {
                w[i / 4] = w[i / 4] << 8 | (from + i < bytes.length ? bytes[from + i] & 255 : random.nextInt(256));
            }
            answer("feed", desk.feed(w[0], w[1], w[2], w[3], w[4]), plain.feed(w));
            calls++;
        }
        answer("end " + bytes.length, desk.end(bytes.length) ? 1 : 0, plain.end(bytes.length));
        answer("text " + text, desk.text(), plain.text());
        answer("fault of " + text, desk.fault(), plain.fault());
        return calls;
    }

    private String goodText() {
        StringBuilder text = new StringBuilder();
        int end = 3 + random.nextInt(497);
        text.append("year ").append(amount(0)).append(' ').append(random.nextBoolean() ? 0 : random.nextInt(3000));
        text.append(' ').append(end).append(gap(";"));
        int[] due = rising(4, 0, end);
        int[] cut = rising(4, 0, 364);
        for (int p = 0; p < 4; p++) {
            text.append("period ").append(due[p]).append(' ').append(cut[p]).append(gap(";"));
        }
        text.append("share ").append(100 - random.nextInt(20)).append(' ').append(random.nextInt(101)).append(gap(";"));
        int[] limits = rising(random.nextInt(5), 1, 99999);
        int[] rates = rising(random.nextInt(7), 0, 499);
        int step = 0;
        int rate = 0;
        boolean over = false;
        int incomes = 0;
        int payments = 0;
        for (int i = random.nextInt(45); i >= 0; i--) {
            int sort = random.nextInt(5);
            if (sort == 0 && step < limits.length) {
                text.append("upto ").append(limits[step++]).append(' ').append(random.nextInt(100)).append(gap(";"));
            } else if (sort == 1 && rate < rates.length) {
                text.append("rate ").append(rates[rate++]).append(' ').append(random.nextInt(4) * 33).append(gap(";"));
            } else if (sort == 2 && !over) {
                over = true;
                text.append("over ").append(random.nextInt(100)).append(gap(";"));
            } else if (sort == 3 && incomes < 20) {
                incomes++;
                text.append("income ").append(random.nextInt(365)).append(' ').append(amount(1)).append(gap(";"));
            } else if (sort == 4 && payments < 20) {
                payments++;
                text.append("pay ").append(day()).append(' ').append(amount(1)).append(gap(";"));
            }
        }
        return text.length() <= 838 ? text.toString() : text.substring(0, 838);
    }

    private String gap(String sign) {
        int kind = random.nextInt(24);
        return kind == 0 ? " " + sign : kind == 1 ? sign + "\n" : sign;
    }

    private String spoilt(String text) {
        StringBuilder spoilt = new StringBuilder(text);
        String[] lines = {"over 1;", "over 2;", "upto 99999 1;", "rate 499 9;", "pay 1 1;", "income 1 1;", "share 1 1;",
            "period 499 364;", "year 1 1 1;", ";", "7", "x", "!", "99999 ", "100", " 0 ", "365", "500"};
        for (int i = random.nextInt(3); i >= 0; i--) {
            int at = random.nextInt(spoilt.length() + 1);
            int kind = random.nextInt(5);
            if (kind == 0) {
                spoilt.setLength(at);
            } else if (kind == 1 && at < spoilt.length()) {
                spoilt.deleteCharAt(at);
            } else if (kind == 2 && at < spoilt.length()) {
                spoilt.setCharAt(at, (char) random.nextInt(256));
            } else if (kind == 3) {
                at = Math.max(0, spoilt.indexOf(";", at) + 1);
                spoilt.insert(at, lines[random.nextInt(lines.length)]);
            } else {
                spoilt.insert(at, lines[random.nextInt(lines.length)]);
            }
        }
        return spoilt.length() <= 838 ? spoilt.toString() : spoilt.substring(0, 838);
    }

    private int[] rising(int many, int low, int high) {
        return random.ints(low, high + 1).distinct().limit(many).sorted().toArray();
    }

    private int day() {
        return random.nextInt(500);
    }

    private int amount(int low) {
        int[] most = {10, 1000, 20000, 99999};
        return low + random.nextInt(most[random.nextInt(4)] + 1 - low);
    }

    private int some(int usual) {
        return random.nextInt(25) == 0 ? ODD[random.nextInt(ODD.length)] : usual;
    }

    private void oneCall() {
        int day = some(day());
        int amount = some(amount(1));
        int k = some(random.nextInt(8));
        int p = some(random.nextInt(4));
        int rule = some(random.nextInt(3));
        switch (random.nextInt(14)) {
            case 0: answer("tax " + amount, desk.tax(amount), plain.tax(amount)); break;
            case 1: answer("income " + day, desk.income(day), plain.income(day)); break;
            case 2: answer("unpaid " + p + " " + day, desk.unpaid(p, day), plain.unpaid(p, day)); break;
            case 3: answer("free " + day, desk.free(day), plain.free(day)); break;
            case 4: answer("rate " + day, desk.rate(day), plain.rate(day)); break;
            case 5: answer("moved " + k + " " + day, desk.moved(k, day), plain.moved(k, day)); break;
            case 6: answer("were " + k + " " + amount, desk.were(k, amount), plain.were(k, amount)); break;
            case 7: answer("barring " + rule, desk.barring(rule), plain.barring(rule)); break;
            case 8: answer("clears " + day, desk.clears(day), plain.clears(day)); break;
            case 9: case 10: parted(k, p); break;
            case 11: case 12: change(day, amount, rule); break;
            default: seldom(amount); break;
        }
    }

    private void parted(int k, int p) {
        int what = some(random.nextInt(11));
        int part = some(random.nextInt(5));
        switch (random.nextInt(4)) {
            case 0: answer("now " + what, desk.now(what), plain.now(what)); break;
            case 1: answer("period " + p + " " + what, desk.period(p, what), plain.period(p, what)); break;
            case 2: answer("payment " + k + " " + part, desk.payment(k, part), plain.payment(k, part)); break;
            default: answer("late " + k + " " + part, Checks.late(desk, k, part), plain.late(k, part)); break;
        }
    }

    private void change(int day, int amount, int rule) {
        switch (random.nextInt(5)) {
            case 0: answer("earn " + day + " " + amount, desk.earn(day, amount), plain.earn(day, amount)); break;
            case 1: answer("pay " + day + " " + amount, desk.pay(day, amount), plain.pay(day, amount)); break;
            case 2: answer("bar " + rule, desk.bar(rule), plain.bar(rule)); break;
            default: answer("refund " + day + " " + amount, desk.refund(day, amount), plain.refund(day, amount)); break;
        }
    }

    private void seldom(int amount) {
        switch (random.nextInt(6)) {
            case 0: answer("latest " + amount, desk.latest(amount), plain.latest(amount)); break;
            case 1: answer("undo", desk.undo(), plain.undo()); break;
            default: break;
        }
    }
}
