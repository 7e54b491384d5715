/** Promises 6 to 14: what the desk tells of a year. */
public final class AnswersTest {
    private static final Checks CHECKS = new Checks();
    private static final int NO_SUCH = -1000000000;

    public static void main(String[] args) {
        now();
        tax();
        income();
        period();
        greatSums();
        likeRules();
        sinkingLeast();
        unpaid();
        free();
        rate();
        payment();
        late();
        lateRowsSideBySide();
        daysAtEnd();
        roundedCost();
        CHECKS.close("AnswersTest");
    }

    private static void now() {
        InstalmentDesk desk = Checks.told(Checks.YEAR);
        long[] due = {60000, 11000, 5000, 6000, 78, 2, 0, 4, 0, 0, 0};
        for (int what = 0; what < due.length; what++) {
            CHECKS.due("now(" + what + ")", desk.now(what), due[what]);
        }
        int[] wrong = {-1, 11, Integer.MIN_VALUE, Integer.MAX_VALUE};
        for (int what : wrong) {
            CHECKS.due("now(" + what + ")", desk.now(what), NO_SUCH);
        }
        desk.pay(400, 20000);
        desk.pay(401, 7);
        CHECKS.due("PAID up to END, that DAY too", desk.now(2), 25000);
        CHECKS.due("BALANCE below 0", desk.now(3), -14000);
        CHECKS.due("PAYMENTS", desk.now(5), 4);
        desk.refund(400, 9);
        CHECKS.due("TAKEN BACK", desk.now(6), 9);
        CHECKS.due("PAID less it", desk.now(2), 24991);
        desk.bar(2);
        CHECKS.due("BARRED", desk.now(8), 4);
        CHECKS.due("to undo", desk.now(9), 4);
        desk.feed(0, 0, 0, 0, 0);
        CHECKS.due("tape", desk.now(10), 20);
    }

    private static void tax() {
        InstalmentDesk desk = Checks.told(Checks.FRAME + "upto 100 10;upto 101 15;upto 1000 33;over 50;");
        long[][] due = {{0, 0}, {9, 0}, {10, 1}, {100, 10}, {101, 10}, {102, 10}, {104, 11}, {1000, 306},
            {1001, 307}, {1002, 307}, {1003, 308}, {9999999, 4999806}, {-1, -1}, {10000000, -1},
            {Integer.MIN_VALUE, -1}, {Integer.MAX_VALUE, -1}};
        for (long[] row : due) {
            CHECKS.due("tax(" + row[0] + ")", desk.tax((int) row[0]), row[1]);
        }
        CHECKS.due("without 'upto'", Checks.told(Checks.FRAME + "over 99;").tax(9999999), 9899999);
        InstalmentDesk none = Checks.told(Checks.FRAME + "upto 10 10;upto 20 0;");
        CHECKS.due("without 'over'", none.tax(9999999), 1);
    }

    private static void income() {
        InstalmentDesk desk = Checks.told(Checks.FRAME + "income 364 4;income 3 1;income 0 9;income 3 2;");
        long[][] due = {{0, 9}, {2, 9}, {3, 12}, {363, 12}, {364, 16}, {499, 16}, {500, -1}, {-1, -1}};
        for (long[] row : due) {
            CHECKS.due("income(" + row[0] + ")", desk.income((int) row[0]), row[1]);
        }
    }

    private static void period() {
        InstalmentDesk desk = Checks.told(Checks.YEAR);
        long[][] due = {
            {2475, 2500, 3424, 2475, 0, 2475, 3, 100, 89, 81111},
            {4950, 5000, 6120, 4950, 0, 2475, 2, 160, 149, 73000},
            {7425, 7500, 5484, 5484, 2, 534, 21, 250, 239, 45625},
            {9900, 10000, 9900, 9900, 0, 4416, 52, 360, 364, 60000}};
        for (int period = 0; period < 4; period++) {
            for (int what = 0; what < 10; what++) {
                CHECKS.due("period(" + period + ", " + what + ")", desk.period(period, what), due[period][what]);
            }
            CHECKS.due("period, what -1", desk.period(period, -1), -1);
            CHECKS.due("period, what 10", desk.period(period, 10), -1);
        }
        for (int what = 0; what < 10; what++) {
            CHECKS.due("period(-1, ..)", desk.period(-1, what), -1);
            CHECKS.due("period(4, ..)", desk.period(4, what), -1);
        }
        desk.bar(0);
        CHECKS.due("a SUM by a BARRED rule", desk.period(0, 0), 2475);
        CHECKS.due("LEAST without it", desk.period(0, 3), 2500);
    }

    private static void greatSums() {
        InstalmentDesk desk = Checks.told(
            "year 99999 0 499;period 0 0;period 1 1;period 2 2;period 3 3;share 100 100;over 99;rate 0 99;");
        for (int i = 0; i < 40; i++) {
            desk.earn(0, 99999);
        }
        desk.bar(0);
        desk.bar(1);
        CHECKS.due("YEARLY", desk.period(0, 9), 1459985400L);
        CHECKS.due("SUM by rule 2", desk.period(0, 2), 361346386L);
        CHECKS.due("the last one by rule 2", desk.period(3, 2), 361346386L);
        CHECKS.due("UNPAID", desk.unpaid(0, 499), 361346386L);
        CHECKS.due("COST", desk.period(0, 6), 361346386L * 99 * 499 / 100000);
        CHECKS.due("clears", desk.clears(0), 361346386L);
    }

    private static void likeRules() {
        InstalmentDesk desk = Checks.told(
            "year 100 0 9;period 1 361;period 2 362;period 3 363;period 4 364;share 100 100;over 10;income 0 1000;");
        CHECKS.due("rules 0, 1 and 2 alike", desk.period(3, 4), 0);
        desk.bar(0);
        CHECKS.due("rules 1 and 2 alike", desk.period(3, 4), 1);
        desk.bar(1);
        CHECKS.due("rule 2 alone", desk.period(3, 4), 2);
        desk.bar(0);
        CHECKS.due("rules 0 and 2 alike", desk.period(3, 4), 0);
    }

    private static void sinkingLeast() {
        // By rule 2 all of the early income counts up to PERIOD 0 alone.
        InstalmentDesk desk = Checks.told(
            "year 0 0 9;period 1 0;period 2 99;period 3 199;period 4 364;share 100 0;over 10;income 0 1000;");
        desk.bar(0);
        desk.bar(1);
        long[] least = {9125, 182, 136, 100};
        long[] instalment = {9125, 0, 0, 0};
        for (int period = 0; period < 4; period++) {
            CHECKS.due("LEAST of " + period, desk.period(period, 3), least[period]);
            CHECKS.due("INSTALMENT " + period, desk.period(period, 5), instalment[period]);
        }
    }

    private static void unpaid() {
        InstalmentDesk desk = Checks.told(Checks.YEAR);
        long[][] due = {{0, 0, 1975}, {0, 94, 1975}, {0, 95, 475}, {0, 169, 475}, {0, 170, 0}, {1, 169, 2475},
            {1, 170, 0}, {2, 169, 534}, {2, 170, 484}, {2, 499, 484}, {3, 0, 4416}, {3, 499, 4416},
            {-1, 0, -1}, {4, 0, -1}, {0, -1, -1}, {0, 500, -1}};
        for (long[] row : due) {
            CHECKS.due("unpaid(" + row[0] + ", " + row[1] + ")", desk.unpaid((int) row[0], (int) row[1]), row[2]);
        }
        desk.pay(480, 4900);
        CHECKS.due("a PAYMENT behind END covers from then on", desk.unpaid(3, 480), 0);
        CHECKS.due("and not ahead of it", desk.unpaid(3, 479), 4416);
    }

    private static void free() {
        InstalmentDesk desk = Checks.told(Checks.YEAR);
        long[][] due = {{0, 500}, {94, 500}, {95, 2000}, {99, 2000}, {100, 0}, {169, 0}, {170, 50}, {249, 50},
            {250, 0}, {499, 0}, {-1, -1}, {500, -1}};
        for (long[] row : due) {
            CHECKS.due("free(" + row[0] + ")", desk.free((int) row[0]), row[1]);
        }
        desk.pay(450, 5000);
        CHECKS.due("FREE behind END", desk.free(450), 100);
    }

    private static void rate() {
        InstalmentDesk desk = Checks.told(Checks.FRAME + "rate 5 7;rate 6 0;rate 499 99;");
        long[][] due = {{0, 0}, {4, 0}, {5, 7}, {6, 0}, {498, 0}, {499, 99}, {500, -1}, {-1, -1}};
        for (long[] row : due) {
            CHECKS.due("rate(" + row[0] + ")", desk.rate((int) row[0]), row[1]);
        }
    }

    private static void payment() {
        InstalmentDesk desk = Checks.told(Checks.FRAME + "pay 9 1;pay 3 2;");
        desk.pay(4, 5);
        long[][] due = {{0, 0, 9}, {0, 1, 1}, {1, 0, 3}, {1, 1, 2}, {2, 0, 4}, {2, 1, 5}, {3, 0, -1}, {-1, 0, -1},
            {0, 2, -1}, {0, -1, -1}, {Integer.MAX_VALUE, 0, -1}};
        for (long[] row : due) {
            CHECKS.due("payment(" + row[0] + ", " + row[1] + ")", desk.payment((int) row[0], (int) row[1]), row[2]);
        }
    }

    private static void late() {
        InstalmentDesk desk = Checks.told(Checks.YEAR);
        rows(desk, new long[][] {{0, 100, 70, 475, 10}, {1, 160, 10, 2475, 10}, {2, 250, 150, 484, 30},
            {3, 360, 40, 4416, 30}});
        for (int i = 0; i < 4; i++) {
            CHECKS.due("late, what -1", Checks.late(desk, i, -1), Checks.THROWS);
            CHECKS.due("late, what 5", Checks.late(desk, i, 5), Checks.THROWS);
        }
        for (int what = -1; what < 6; what++) {
            CHECKS.due("late(-1, ..)", Checks.late(desk, -1, what), Checks.THROWS);
            CHECKS.due("late(least, ..)", Checks.late(desk, Integer.MIN_VALUE, what), Checks.THROWS);
            CHECKS.due("late(most, ..)", Checks.late(desk, Integer.MAX_VALUE, what), Checks.THROWS);
        }
        CHECKS.due("LATE rows after throws", desk.now(7), 4);
    }

    private static void lateRowsSideBySide() {
        String frame = "year 400 0 40;period 10 1;period 20 2;period 30 3;period 40 4;share 0 100;";
        // Rule 1 alone: an INSTALMENT of 100 each; rates that stay as much part no row, rate 0 has rows too.
        InstalmentDesk desk = Checks.told(frame + "rate 5 7;rate 15 7;rate 25 9;rate 35 0;pay 12 30;pay 38 70;pay 22 1;");
        desk.bar(0);
        desk.bar(2);
        rows(desk, new long[][] {{0, 10, 2, 100, 7}, {0, 12, 10, 70, 7}, {0, 22, 3, 69, 7}, {0, 25, 10, 69, 9},
            {0, 35, 3, 69, 0}, {1, 20, 5, 100, 7}, {1, 25, 10, 100, 9}, {1, 35, 3, 100, 0}, {1, 38, 2, 99, 0},
            {2, 30, 5, 100, 9}, {2, 35, 5, 100, 0}});
        desk.earn(0, 1);
        desk.pay(10, 300);
        CHECKS.due("all covered", desk.now(7), 0);
        CHECKS.due("refund of what is FREE on END", desk.refund(15, 1), 229);
        CHECKS.due("nothing is FREE on END then", desk.refund(15, 1), -1);
    }

    private static void daysAtEnd() {
        InstalmentDesk desk = Checks.told(
            "year 400 0 499;period 496 1;period 497 2;period 498 3;period 499 4;share 0 100;rate 0 99;");
        desk.bar(0);
        desk.bar(2);
        rows(desk, new long[][] {{0, 496, 3, 100, 99}, {1, 497, 2, 100, 99}, {2, 498, 1, 100, 99}});
        CHECKS.due("COST of what is DUE on END", desk.period(3, 6), 0);
        CHECKS.due("UNPAID of it", desk.unpaid(3, 499), 100);
    }

    private static void roundedCost() {
        // The rate holds on the DUE of INSTALMENT 0 alone: 11111 times 9 is one short of 100,000.
        String text = "year 44444 0 5;period 2 1;period 3 2;period 4 3;period 5 4;share 0 100;rate 2 9;rate 3 0;";
        InstalmentDesk desk = Checks.told(text);
        desk.bar(0);
        desk.bar(2);
        CHECKS.due("one short", desk.period(0, 6), 0);
        desk = Checks.told(text.replace("44444", "40000").replace("2 9;", "2 10;"));
        desk.bar(0);
        desk.bar(2);
        CHECKS.due("just as much", desk.period(0, 6), 1);
        CHECKS.due("COSTS", desk.now(4), 1);
    }

    private static void rows(InstalmentDesk desk, long[][] due) {
        CHECKS.due("LATE rows", desk.now(7), due.length);
        for (int i = 0; i < due.length; i++) {
            for (int what = 0; what < 5; what++) {
                CHECKS.due("late(" + i + ", " + what + ")", Checks.late(desk, i, what), due[i][what]);
            }
        }
        CHECKS.due("late behind the last row", Checks.late(desk, due.length, 0), Checks.THROWS);
    }
}
