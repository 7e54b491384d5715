/** The boundary cases of taxes, sums and payments and of promises 6 to 14, a method for each sentence that names one. */
public final class EdgesOfAnswersTest {
    private static final Checks CHECKS = new Checks();
    // By rule 1 alone an INSTALMENT of 100 each.
    private static final String EVEN = "year 400 0 40;period 10 1;period 20 2;period 30 3;period 40 4;share 0 100;";
    private static final int[] NO_DAYS = {-1, 500, Integer.MIN_VALUE, Integer.MAX_VALUE};
    private static final int[] NO_PERIODS = {-1, 4, Integer.MIN_VALUE, Integer.MAX_VALUE};

    public static void main(String[] args) {
        taxBySteps();
        taxOfAllIfNoLimit();
        taxWithoutOver();
        taxRoundedDown();
        incomeUpTo();
        sumsByRules();
        sumsRoundedDown();
        sumsDoNotWrap();
        yearly();
        leastOfLikeOnes();
        leastOfNotBarred();
        instalment();
        paidUpTo();
        oldestFirst();
        costDays();
        costRoundedDown();
        rateOfADay();
        freeAtADay();
        takenBack();
        lateRows();
        balance();
        nowWhat();
        tax();
        income();
        period();
        unpaid();
        free();
        rate();
        payment();
        late();
        lateRowsAsMany();
        lateAfterAChange();
        lateChangesNothing();
        CHECKS.close("EdgesOfAnswersTest");
    }

    private static InstalmentDesk even(String more) {
        return byRule(1, EVEN + more);
    }

    private static InstalmentDesk byRule(int rule, String text) {
        InstalmentDesk desk = Checks.told(text);
        for (int other = 0; other < 3; other++) {
            if (other != rule) {
                desk.bar(other);
            }
        }
        return desk;
    }

    private static void taxBySteps() {
        CHECKS.sentence("of what is up to the first LIMIT its RATE in hundredths, of what is above it up to the next LIMIT"
            + " that RATE, and so on, of what is above the last one");
        InstalmentDesk desk = Checks.told(EVEN + "upto 1000 10;upto 2000 20;upto 3000 30;upto 4000 40;over 50;");
        taxes(desk, new long[][] {{990, 99}, {1000, 100}, {1005, 101}, {1990, 298}, {2000, 300}, {2010, 303},
            {3000, 600}, {3010, 604}, {4000, 1000}, {4010, 1005}, {9999999, 4998999}});
        InstalmentDesk one = Checks.told(EVEN + "over 99;upto 1 0;");
        taxes(one, new long[][] {{1, 0}, {2, 0}, {3, 1}, {101, 99}});
        InstalmentDesk sinking = Checks.told(EVEN + "upto 100 99;upto 99999 0;over 1;");
        taxes(sinking, new long[][] {{100, 99}, {99999, 99}, {100098, 99}, {100099, 100}});
    }

    private static void taxOfAllIfNoLimit() {
        CHECKS.sentence("(or all, if there is none)");
        taxes(Checks.told(EVEN + "over 10;"), new long[][] {{0, 0}, {9, 0}, {10, 1}, {9999999, 999999}});
        taxes(Checks.told(EVEN + "over 99;"), new long[][] {{1, 0}, {2, 1}, {9999999, 9899999}});
    }

    private static void taxWithoutOver() {
        CHECKS.sentence("the RATE of 'over' (0 without)");
        taxes(Checks.told(EVEN), new long[][] {{0, 0}, {9999999, 0}});
        taxes(Checks.told(EVEN + "upto 1000 10;"), new long[][] {{1000, 100}, {9999999, 100}});
        InstalmentDesk desk = Checks.told(EVEN + "over 99;");
        Checks.tell(desk, EVEN);
        taxes(desk, new long[][] {{9999999, 0}});
    }

    private static void taxRoundedDown() {
        CHECKS.sentence("all together, rounded down");
        // 50 hundredths of each step: apart all would be 0, together they are 1.
        InstalmentDesk desk = Checks.told(EVEN + "upto 1 50;upto 2 49;upto 3 1;over 99;");
        taxes(desk, new long[][] {{1, 0}, {2, 0}, {3, 1}, {4, 1}, {5, 2}});
    }

    private static void taxes(InstalmentDesk desk, long[][] due) {
        for (long[] row : due) {
            CHECKS.due("tax(" + row[0] + ")", desk.tax((int) row[0]), row[1]);
        }
    }

    private static void incomeUpTo() {
        CHECKS.sentence("INCOME up to a DAY: all of that DAY and ahead.");
        InstalmentDesk desk = Checks.told(EVEN + "income 10 5;income 0 1;income 364 7;income 10 2;");
        long[][] due = {{0, 1}, {1, 1}, {9, 1}, {10, 8}, {11, 8}, {363, 8}, {364, 15}, {365, 15}, {499, 15}};
        for (long[] row : due) {
            CHECKS.due("income(" + row[0] + ")", desk.income((int) row[0]), row[1]);
        }
    }

    private static void sumsByRules() {
        CHECKS.sentence("PERIOD p asks for TAX of all INCOME times A times p and 1, by 400; by rule 1 (the year before) PRIOR"
            + " times B times p and 1, by 400; by rule 2 (so far) TAX of YEARLY times A times p and 1, by 400");
        String text = "year 1000 0 9;period 1 72;period 2 145;period 3 218;period 4 364;share 50 25;over 10;"
            + "income 73 73000;income 364 7300;";
        InstalmentDesk desk = Checks.told(text);
        // All INCOME 80300, TAX 8030, half of it 4015; YEARLY 0, 182500, 121666, 80300.
        long[][] due = {{1003, 62, 0}, {2007, 125, 4562}, {3011, 187, 4562}, {4015, 250, 4015}};
        for (int p = 0; p < 4; p++) {
            for (int rule = 0; rule < 3; rule++) {
                CHECKS.due("SUM of " + p + " by " + rule, desk.period(p, rule), due[p][rule]);
            }
        }
        InstalmentDesk none = Checks.told(text.replace("share 50 25", "share 0 0"));
        InstalmentDesk all = Checks.told(text.replace("share 50 25", "share 100 100"));
        for (int rule = 0; rule < 3; rule++) {
            CHECKS.due("no share by " + rule, none.period(3, rule), 0);
            CHECKS.due("all of it by " + rule, all.period(3, rule), rule == 1 ? 1000 : 8030);
        }
    }

    private static void sumsRoundedDown() {
        CHECKS.sentence("each rounded down: SUMS that are due by then, all together");
        InstalmentDesk desk = Checks.told("year 399 0 9;period 1 1;period 2 2;period 3 3;period 4 4;share 1 1;"
            + "over 1;income 0 39900;");
        // 399 times 1 times p and 1: one short of a whole each time, by rules 0 and 1.
        for (int p = 0; p < 4; p++) {
            CHECKS.due("rule 0", desk.period(p, 0), p);
            CHECKS.due("rule 1", desk.period(p, 1), p);
        }
        desk = Checks.told("year 400 0 9;period 1 1;period 2 2;period 3 3;period 4 4;share 1 1;over 1;income 0 40000;");
        for (int p = 0; p < 4; p++) {
            CHECKS.due("rule 0, whole", desk.period(p, 0), p + 1);
            CHECKS.due("rule 1, whole", desk.period(p, 1), p + 1);
        }
        // YEARLY of 7 up to CUT 1 is 1277: TAX 12, by 400 with 99 and 1.
        desk = Checks.told("year 1 0 9;period 1 1;period 2 2;period 3 3;period 4 4;share 99 1;over 1;income 1 7;");
        CHECKS.due("YEARLY", desk.period(0, 9), 1277);
        CHECKS.due("rule 2", desk.period(0, 2), 2);
    }

    private static void sumsDoNotWrap() {
        CHECKS.sentence("by rule 2 (so far) TAX of YEARLY times A times p and 1, by 400");
        InstalmentDesk desk = Checks.told("year 99999 99999 499;period 0 0;period 1 1;period 2 2;period 3 3;share 100 100;"
            + "over 99;rate 0 99;");
        for (int i = 0; i < 40; i++) {
            desk.earn(0, 99999);
        }
        long income = 40L * 99999;
        for (int p = 0; p < 4; p++) {
            long yearly = income * 365 / (p + 1);
            CHECKS.due("YEARLY " + p, desk.period(p, 9), yearly);
            CHECKS.due("SUM by rule 2 of " + p, desk.period(p, 2), yearly * 99 / 100 * 100 * (p + 1) / 400);
            CHECKS.due("SUM by rule 0 of " + p, desk.period(p, 0), income * 99 / 100 * 100 * (p + 1) / 400);
            CHECKS.due("SUM by rule 1 of " + p, desk.period(p, 1), 99999L * 100 * (p + 1) / 400);
        }
        desk.bar(0);
        desk.bar(1);
        long asked = income * 365 * 99 / 100 / 4;
        CHECKS.due("INSTALMENT 0", desk.period(0, 5), asked);
        CHECKS.due("its COST", desk.period(0, 6), (asked - 99999) * 99 * 499 / 100000);
        CHECKS.due("its UNPAID", desk.unpaid(0, 499), asked - 99999);
        CHECKS.due("clears", desk.clears(499), asked - 99999);
        CHECKS.due("late row", Checks.late(desk, 0, 3), asked - 99999);
        for (int i = 0; i < 40; i++) {
            desk.pay(0, 99999);
        }
        CHECKS.due("PAID", desk.now(2), 41L * 99999);
        CHECKS.due("BALANCE", desk.now(3), income * 99 / 100 - 41L * 99999);
    }

    private static void yearly() {
        CHECKS.sentence("YEARLY is INCOME up to CUT times 365 by CUT and 1, rounded down");
        InstalmentDesk desk = Checks.told("year 0 0 9;period 1 0;period 2 1;period 3 363;period 4 364;share 1 1;"
            + "income 0 1;income 1 1;income 2 5;income 363 5;income 364 6;");
        long[] due = {365, 365, 12 * 365 / 364, 18};
        for (int p = 0; p < 4; p++) {
            CHECKS.due("YEARLY " + p, desk.period(p, 9), due[p]);
        }
        desk = Checks.told("year 0 0 9;period 1 361;period 2 362;period 3 363;period 4 364;share 1 1;income 361 1000;");
        long[] down = {1008, 1005, 1002, 1000};
        for (int p = 0; p < 4; p++) {
            CHECKS.due("YEARLY rounded down " + p, desk.period(p, 9), down[p]);
        }
    }

    private static void leastOfLikeOnes() {
        CHECKS.sentence("by the rule of least number of like ones");
        String text = "year 100 0 9;period 1 361;period 2 362;period 3 363;period 4 364;share 100 100;over 10;income 0 ";
        CHECKS.due("all alike", Checks.told(text + "1000;").period(3, 4), 0);
        CHECKS.due("rule 0 by one more", Checks.told(text + "1010;").period(3, 4), 1);
        CHECKS.due("rule 0 by one less", Checks.told(text + "999;").period(3, 4), 0);
        InstalmentDesk desk = Checks.told(text + "1000;");
        desk.bar(0);
        CHECKS.due("rules 1 and 2 alike", desk.period(3, 4), 1);
        CHECKS.due("LEAST", desk.period(3, 3), 100);
        desk = Checks.told(text + "1010;");
        desk.bar(1);
        CHECKS.due("rules 0 and 2 alike", desk.period(3, 4), 0);
        CHECKS.due("LEAST", desk.period(3, 3), 101);
        CHECKS.due("all of them 0", new InstalmentDesk().period(0, 4), 0);
    }

    private static void leastOfNotBarred() {
        CHECKS.sentence("LEAST is the least of these (of rules that are not BARRED)");
        // By rules 0, 1, 2 of PERIOD 3: 200, 300, 100, as the last income comes behind CUT 3.
        String text = "year 300 0 9;period 1 0;period 2 1;period 3 2;period 4 363;share 100 100;over 10;"
            + "income 0 998;income 364 1002;";
        long[][] due = {{100, 2}, {100, 2}, {100, 2}, {100, 2}, {200, 0}, {300, 1}, {200, 0}};
        for (int barred = 0; barred < 7; barred++) {
            InstalmentDesk desk = Checks.told(text);
            for (int rule = 0; rule < 3; rule++) {
                if ((barred >> rule & 1) != 0) {
                    desk.bar(rule);
                }
            }
            CHECKS.due("BARRED", desk.now(8), barred);
            CHECKS.due("LEAST, BARRED " + barred, desk.period(3, 3), due[barred][0]);
            CHECKS.due("by, BARRED " + barred, desk.period(3, 4), due[barred][1]);
            CHECKS.due("SUM by rule 2", desk.period(3, 2), 100);
            CHECKS.due("SUM by rule 1", desk.period(3, 1), 300);
            CHECKS.due("SUM by rule 0", desk.period(3, 0), 200);
        }
    }

    private static void instalment() {
        CHECKS.sentence("by how much LEAST is above all INSTALMENTS ahead of it, together; 0, if it is not");
        // By rule 2 alone: much of the first DAY, little up to the last one.
        InstalmentDesk desk = byRule(2, "year 0 0 9;period 1 0;period 2 145;period 3 218;period 4 364;share 100 0;over 10;"
            + "income 0 40;income 364 18210;");
        long[] least = {365, 5, 4, 1825};
        long[] due = {365, 0, 0, 1460};
        for (int p = 0; p < 4; p++) {
            CHECKS.due("LEAST " + p, desk.period(p, 3), least[p]);
            CHECKS.due("INSTALMENT " + p, desk.period(p, 5), due[p]);
        }
        // Just as much as all ahead of it, one less, and one more.
        desk = byRule(2, "year 0 0 9;period 1 0;period 2 1;period 3 2;period 4 3;share 100 0;over 1;"
            + "income 0 400;income 3 1;");
        long[] flat = {365, 365, 364, 365};
        for (int p = 0; p < 4; p++) {
            CHECKS.due("LEAST " + p, desk.period(p, 3), flat[p]);
            CHECKS.due("INSTALMENT " + p, desk.period(p, 5), p == 0 ? 365 : 0);
        }
        desk.earn(3, 1);
        CHECKS.due("LEAST by one more", desk.period(3, 3), 366);
        CHECKS.due("INSTALMENT by one more", desk.period(3, 5), 1);
        desk = even("");
        for (int p = 0; p < 4; p++) {
            CHECKS.due("INSTALMENT " + p, desk.period(p, 5), 100);
        }
    }

    private static void paidUpTo() {
        CHECKS.sentence("PAID up to a DAY: CREDIT, and PAYMENTS of that DAY and ahead, less what was TAKEN BACK by then.");
        InstalmentDesk desk = even("pay 40 1000;pay 41 20000;");
        CHECKS.due("PAID on END", desk.now(2), 1000);
        CHECKS.due("FREE ahead of it", desk.free(39), 0);
        CHECKS.due("FREE on it", desk.free(40), 600);
        CHECKS.due("FREE behind it", desk.free(41), 20600);
        desk.refund(40, 50);
        CHECKS.due("PAID less it", desk.now(2), 950);
        CHECKS.due("FREE less it", desk.free(41), 20550);
        CHECKS.due("ahead of it nothing is", desk.clears(39), 400);
        InstalmentDesk credit = Checks.told(EVEN.replace("400 0", "400 75"));
        CHECKS.due("CREDIT on DAY 0", credit.free(0), 75);
        credit.pay(5, 10);
        credit.refund(7, 60);
        long[][] due = {{0, 75}, {4, 75}, {5, 85}, {6, 85}, {7, 25}, {499, 25}};
        for (long[] row : due) {
            CHECKS.due("PAID up to " + row[0], credit.free((int) row[0]), row[1]);
        }
    }

    private static void oldestFirst() {
        CHECKS.sentence("It is laid to INSTALMENTS, the oldest first, as far as it goes");
        int[] paid = {1, 99, 100, 101, 199, 200, 299, 300, 301, 399, 400, 401};
        for (int sum : paid) {
            InstalmentDesk desk = even("pay 0 " + sum + ";");
            for (int p = 0; p < 4; p++) {
                long covered = Math.max(0, Math.min(100, sum - 100 * p));
                CHECKS.due("UNPAID of " + p + " of " + sum, desk.unpaid(p, 0), 100 - covered);
            }
        }
        InstalmentDesk desk = even("");
        for (int p = 0; p < 4; p++) {
            CHECKS.due("UNPAID, nothing paid", desk.unpaid(p, 499), 100);
        }
    }

    private static void costDays() {
        CHECKS.sentence("for each DAY from DUE up to the one ahead of END what is UNPAID at it times R of that DAY");
        // An INSTALMENT of 20000 each at 50: a DAY costs 10.
        String text = EVEN.replace("400 0", "80000 0");
        InstalmentDesk desk = byRule(1, text + "rate 0 50;");
        long[] due = {300, 200, 100, 0};
        for (int p = 0; p < 4; p++) {
            CHECKS.due("COST " + p, desk.period(p, 6), due[p]);
        }
        CHECKS.due("on DUE alone", byRule(1, text + "rate 10 50;rate 11 0;").now(4), 10);
        CHECKS.due("ahead of DUE alone", byRule(1, text + "rate 9 50;rate 10 0;").now(4), 0);
        CHECKS.due("ahead of END alone", byRule(1, text + "rate 39 50;rate 40 0;").now(4), 30);
        CHECKS.due("on END alone", byRule(1, text + "rate 40 50;").now(4), 0);
        CHECKS.due("paid on DUE", byRule(1, text + "rate 0 50;pay 10 80000;").now(4), 0);
        CHECKS.due("paid behind DUE", byRule(1, text + "rate 0 50;pay 11 80000;").now(4), 10);
        CHECKS.due("paid ahead of END", byRule(1, text + "rate 0 50;pay 39 80000;").now(4), 570);
        CHECKS.due("paid on END", byRule(1, text + "rate 0 50;pay 40 80000;").now(4), 600);
        InstalmentDesk last = byRule(1, "year 80000 0 499;period 0 1;period 1 2;period 498 3;period 499 4;share 0 100;"
            + "rate 0 50;");
        long[] most = {4990, 4980, 10, 0};
        for (int p = 0; p < 4; p++) {
            CHECKS.due("COST to END 499, of " + p, last.period(p, 6), most[p]);
        }
    }

    private static void costRoundedDown() {
        CHECKS.sentence("together, by 100,000, rounded down");
        // A DAY alone: 11111 times 9 is 99999, 10000 times 10 is 100000, 33333 times 6 is 199998.
        costsOfADay(44444, 9, 0);
        costsOfADay(40000, 10, 1);
        costsOfADay(39996, 10, 0);
        costsOfADay(66668, 6, 1);
        // Two DAYS of half of 100,000 each: together, not DAY by DAY.
        InstalmentDesk desk = byRule(1, EVEN.replace("400 0", "40000 0") + "rate 10 5;rate 12 0;");
        CHECKS.due("DAYS together", desk.period(0, 6), 1);
        // INSTALMENTS of half of 100,000 each: each is rounded down.
        desk = byRule(1, EVEN.replace("400 0", "40000 0") + "rate 30 5;rate 31 0;");
        CHECKS.due("COSTS of INSTALMENTS are rounded one by one", desk.now(4), 0);
    }

    private static void costsOfADay(int prior, int rate, int due) {
        InstalmentDesk desk = byRule(1, EVEN.replace("400 0", prior + " 0") + "rate 10 " + rate + ";rate 11 0;");
        CHECKS.due("COST of " + prior + " at " + rate, desk.period(0, 6), due);
        CHECKS.due("COSTS of " + prior + " at " + rate, desk.now(4), due);
        // DAYS on which nothing is UNPAID add nothing.
        desk = byRule(1, EVEN.replace("400 0", prior + " 0") + "rate 10 " + rate + ";pay 11 99999;");
        CHECKS.due("COST of " + prior + " at " + rate + ", paid then", desk.period(0, 6), due);
    }

    private static void rateOfADay() {
        CHECKS.sentence("(the latest 'rate' of FROM no later; 0 without)");
        InstalmentDesk desk = Checks.told(EVEN + "rate 3 7;rate 4 9;rate 498 0;rate 499 99;");
        long[][] due = {{0, 0}, {2, 0}, {3, 7}, {4, 9}, {5, 9}, {497, 9}, {498, 0}, {499, 99}};
        for (long[] row : due) {
            CHECKS.due("rate(" + row[0] + ")", desk.rate((int) row[0]), row[1]);
        }
        CHECKS.due("from DAY 0", Checks.told(EVEN + "rate 0 5;").rate(0), 5);
        InstalmentDesk six = Checks.told(EVEN + "rate 0 1;rate 1 2;rate 2 3;rate 3 4;rate 4 5;rate 5 6;");
        for (int day = 0; day < 6; day++) {
            CHECKS.due("one of six", six.rate(day), day + 1);
        }
        CHECKS.due("without", Checks.told(EVEN).rate(499), 0);
    }

    private static void freeAtADay() {
        CHECKS.sentence("FREE at a DAY: PAID up to it less INSTALMENTS that are DUE by it (0, if it is not above).");
        InstalmentDesk desk = even("pay 9 101;pay 20 98;pay 30 101;pay 39 100;pay 450 1;");
        long[][] due = {{8, 0}, {9, 101}, {10, 1}, {19, 1}, {20, 0}, {29, 0}, {30, 0}, {38, 0}, {39, 100}, {40, 0},
            {449, 0}, {450, 1}};
        for (long[] row : due) {
            CHECKS.due("free(" + row[0] + ")", desk.free((int) row[0]), row[1]);
        }
    }

    private static void takenBack() {
        CHECKS.sentence("TAKEN BACK on a DAY can be no more than is FREE at each DAY from then to END");
        InstalmentDesk desk = even("pay 9 110;pay 20 100;pay 29 100;pay 40 500;");
        // FREE: 110, 10 from DUE 0, 10 from DUE 1, 110, 10 from DUE 2, 410 on END.
        CHECKS.due("one more than is FREE then", desk.refund(10, 11), -1);
        CHECKS.due("FREE then, not behind it", desk.refund(9, 110), -1);
        CHECKS.due("FREE then, not behind it", desk.refund(29, 11), -1);
        CHECKS.due("one more than is FREE on END", desk.refund(40, 411), -1);
        CHECKS.due("as much as is FREE to END", desk.refund(29, 10), 100);
        CHECKS.due("no more", desk.refund(9, 1), -1);
        CHECKS.due("as much as is FREE on END", desk.refund(40, 400), 0);
        CHECKS.due("no more", desk.refund(40, 1), -1);
        // Behind END nothing is looked at, and a gap on END is.
        InstalmentDesk gap = even("pay 9 310;pay 41 500;");
        CHECKS.due("not covered on END", gap.refund(10, 1), -1);
        gap.pay(40, 91);
        CHECKS.due("covered on END", gap.refund(10, 1), 209);
        InstalmentDesk last = byRule(1, "year 400 0 499;period 0 1;period 1 2;period 498 3;period 499 4;share 0 100;"
            + "pay 0 399;");
        CHECKS.due("not covered on END 499", last.refund(498, 1), -1);
        last.pay(499, 2);
        CHECKS.due("covered on END 499", last.refund(498, 1), 98);
        CHECKS.due("no more", last.refund(498, 1), -1);
    }

    private static void lateRows() {
        CHECKS.sentence("from DUE to END: DAYS side by side at which as much is UNPAID (more than 0) and R is as much");
        rows(even("rate 0 5;pay 0 400;"), new long[][] {});
        rows(even("rate 0 5;pay 0 399;"), new long[][] {});
        rows(even("rate 0 5;pay 0 299;"), new long[][] {{2, 30, 10, 1, 5}});
        rows(even("rate 0 5;pay 0 299;pay 30 1;"), new long[][] {});
        rows(even("rate 0 5;pay 0 299;pay 31 1;"), new long[][] {{2, 30, 1, 1, 5}});
        rows(even("rate 0 5;pay 0 299;pay 39 1;"), new long[][] {{2, 30, 9, 1, 5}});
        rows(even("rate 0 5;pay 0 299;pay 40 1;"), new long[][] {{2, 30, 10, 1, 5}});
        rows(even("rate 0 5;rate 30 5;rate 39 6;pay 0 299;"), new long[][] {{2, 30, 9, 1, 5}, {2, 39, 1, 1, 6}});
        rows(even("rate 40 5;pay 0 299;"), new long[][] {{2, 30, 10, 1, 0}});
        // What is laid to another INSTALMENT parts no row.
        rows(even("rate 0 5;pay 25 10;"), new long[][] {{0, 10, 15, 100, 5}, {0, 25, 15, 90, 5}, {1, 20, 20, 100, 5},
            {2, 30, 10, 100, 5}});
        // A rate there and back, side by side no more.
        rows(even("rate 0 5;rate 33 6;rate 34 5;pay 0 200;"), new long[][] {{2, 30, 3, 100, 5}, {2, 33, 1, 100, 6},
            {2, 34, 6, 100, 5}});
        // Money TAKEN BACK begins a row, where INSTALMENTS rose after that.
        InstalmentDesk desk = Checks.told(EVEN + "rate 0 5;pay 0 120;");
        desk.refund(15, 60);
        desk.refund(25, 20);
        desk.bar(0);
        desk.bar(2);
        rows(desk, new long[][] {{0, 15, 10, 40, 5}, {0, 25, 15, 60, 5}, {1, 20, 20, 100, 5}, {2, 30, 10, 100, 5}});
        rows(new InstalmentDesk(), new long[][] {});
    }

    private static void balance() {
        CHECKS.sentence("BALANCE: TAX of all INCOME less PAID up to END.");
        InstalmentDesk desk = Checks.told(EVEN + "over 10;income 364 1000;pay 40 99;pay 41 5000;");
        CHECKS.due("above 0", desk.now(3), 1);
        desk.pay(0, 1);
        CHECKS.due("0", desk.now(3), 0);
        desk.pay(0, 1);
        CHECKS.due("below 0, as NONE is", desk.now(3), -1);
        desk.pay(0, 99999);
        CHECKS.due("far below", desk.now(3), -100000);
    }

    private static void nowWhat() {
        CHECKS.sentence("NONE - 999999999 for another what.");
        InstalmentDesk desk = even("pay 1 1;");
        desk.feed(0, 0, 0, 0, 0);
        for (int what : new int[] {-1, 11, 12, -1000000000, Integer.MIN_VALUE, Integer.MAX_VALUE}) {
            CHECKS.due("now(" + what + ")", desk.now(what), -1000000000);
        }
        long[] due = {0, 0, 1, -1, 0, 1, 0, 3, 5, 2, 20};
        for (int what = 0; what <= 10; what++) {
            CHECKS.due("now(" + what + ")", desk.now(what), due[what]);
        }
    }

    private static void tax() {
        CHECKS.sentence("TAX of an income (0 to 9999999). NONE: another one.");
        InstalmentDesk desk = Checks.told(EVEN + "over 99;");
        taxes(desk, new long[][] {{-1, -1}, {0, 0}, {9999999, 9899999}, {10000000, -1}, {Integer.MIN_VALUE, -1},
            {Integer.MAX_VALUE, -1}});
    }

    private static void income() {
        CHECKS.sentence("INCOME up to a DAY (0 to 499). NONE: another one.");
        InstalmentDesk desk = Checks.told(EVEN + "income 0 3;");
        CHECKS.due("income(0)", desk.income(0), 3);
        CHECKS.due("income(499)", desk.income(499), 3);
        for (int day : NO_DAYS) {
            CHECKS.due("income(" + day + ")", desk.income(day), -1);
        }
    }

    private static void period() {
        CHECKS.sentence("NONE: no such one, another what.");
        InstalmentDesk desk = even("");
        for (int period : NO_PERIODS) {
            for (int what = -1; what <= 10; what++) {
                CHECKS.due("period(" + period + ", " + what + ")", desk.period(period, what), -1);
            }
        }
        for (int what : new int[] {-1, 10, Integer.MIN_VALUE, Integer.MAX_VALUE}) {
            CHECKS.due("period(0, " + what + ")", desk.period(0, what), -1);
            CHECKS.due("period(3, " + what + ")", desk.period(3, what), -1);
        }
        long[] first = {0, 100, 0, 100, 1, 100, 0, 10, 1, 0};
        long[] last = {0, 400, 0, 400, 1, 100, 0, 40, 4, 0};
        for (int what = 0; what < 10; what++) {
            CHECKS.due("period(0, " + what + ")", desk.period(0, what), first[what]);
            CHECKS.due("period(3, " + what + ")", desk.period(3, what), last[what]);
        }
    }

    private static void unpaid() {
        CHECKS.sentence("UNPAID of an INSTALMENT at a DAY (0 to 499). NONE: no such ones.");
        InstalmentDesk desk = even("pay 499 400;");
        for (int day : NO_DAYS) {
            CHECKS.due("unpaid(0, " + day + ")", desk.unpaid(0, day), -1);
            CHECKS.due("unpaid(3, " + day + ")", desk.unpaid(3, day), -1);
        }
        for (int period : NO_PERIODS) {
            CHECKS.due("unpaid(" + period + ", 0)", desk.unpaid(period, 0), -1);
            CHECKS.due("unpaid(" + period + ", 499)", desk.unpaid(period, 499), -1);
        }
        for (int p = 0; p < 4; p++) {
            CHECKS.due("ahead of DUE, on DAY 0", desk.unpaid(p, 0), 100);
            CHECKS.due("behind END, on DAY 498", desk.unpaid(p, 498), 100);
            CHECKS.due("behind END, on DAY 499", desk.unpaid(p, 499), 0);
        }
    }

    private static void free() {
        CHECKS.sentence("FREE at a DAY (0 to 499). NONE: another one.");
        InstalmentDesk desk = even("pay 0 7;pay 499 894;");
        for (int day : NO_DAYS) {
            CHECKS.due("free(" + day + ")", desk.free(day), -1);
        }
        CHECKS.due("free(0)", desk.free(0), 7);
        CHECKS.due("free(498)", desk.free(498), 0);
        CHECKS.due("free(499)", desk.free(499), 501);
    }

    private static void rate() {
        CHECKS.sentence("R of a DAY (0 to 499). NONE: another one.");
        InstalmentDesk desk = even("rate 0 7;rate 499 8;");
        for (int day : NO_DAYS) {
            CHECKS.due("rate(" + day + ")", desk.rate(day), -1);
        }
        CHECKS.due("rate(0)", desk.rate(0), 7);
        CHECKS.due("rate(499)", desk.rate(499), 8);
    }

    private static void payment() {
        CHECKS.sentence("Of PAYMENT k (as told, from 0) 0 the DAY, 1 the AMOUNT. NONE: none such, another what.");
        InstalmentDesk desk = even("pay 499 99999;pay 0 1;");
        long[][] due = {{0, 0, 499}, {0, 1, 99999}, {1, 0, 0}, {1, 1, 1}, {2, 0, -1}, {2, 1, -1}, {-1, 0, -1},
            {-1, 1, -1}, {0, 2, -1}, {0, -1, -1}, {1, 2, -1}, {40, 0, -1}, {Integer.MIN_VALUE, 0, -1},
            {Integer.MAX_VALUE, 1, -1}, {0, Integer.MIN_VALUE, -1}, {0, Integer.MAX_VALUE, -1}};
        for (long[] row : due) {
            CHECKS.due("payment(" + row[0] + ", " + row[1] + ")", desk.payment((int) row[0], (int) row[1]), row[2]);
        }
        for (int k = 2; k < 40; k++) {
            desk.pay(k, k);
        }
        CHECKS.due("the last of 40", desk.payment(39, 1), 39);
        CHECKS.due("none such", desk.payment(40, 1), -1);
        desk.undo();
        CHECKS.due("undone", desk.payment(39, 1), -1);
        CHECKS.due("of none", new InstalmentDesk().payment(0, 0), -1);
    }

    private static void late() {
        CHECKS.sentence("NoSuchElementException: none such, another what.");
        InstalmentDesk desk = even("rate 0 5;pay 0 200;");
        rows(desk, new long[][] {{2, 30, 10, 100, 5}});
        for (int i : new int[] {-1, 1, 2, Integer.MIN_VALUE, Integer.MAX_VALUE}) {
            for (int what = -1; what <= 5; what++) {
                CHECKS.due("late(" + i + ", " + what + ")", Checks.late(desk, i, what), Checks.THROWS);
            }
        }
        for (int what : new int[] {-1, 5, Integer.MIN_VALUE, Integer.MAX_VALUE}) {
            CHECKS.due("late(0, " + what + ")", Checks.late(desk, 0, what), Checks.THROWS);
        }
        CHECKS.due("of none", Checks.late(new InstalmentDesk(), 0, 0), Checks.THROWS);
    }

    private static void lateChangesNothing() {
        CHECKS.sentence("A call that throws changes nothing.");
        InstalmentDesk desk = even("rate 0 5;pay 0 200;");
        desk.feed(0x3f3f3f3f, 0, 0, 0, 0);
        for (int i = 0; i < 3; i++) {
            CHECKS.due("late(9, 0)", Checks.late(desk, 9, 0), Checks.THROWS);
            CHECKS.due("late(0, 9)", Checks.late(desk, 0, 9), Checks.THROWS);
            long[] due = {0, 0, 200, -200, 0, 1, 0, 1, 5, 2, 20};
            for (int what = 0; what <= 10; what++) {
                CHECKS.due("now(" + what + ")", desk.now(what), due[what]);
            }
        }
        rows(desk, new long[][] {{2, 30, 10, 100, 5}});
        CHECKS.due("fault", desk.fault(), 0);
        CHECKS.due("undo", desk.undo(), 1);
    }

    private static void lateRowsAsMany() {
        CHECKS.sentence("as many as there are");
        InstalmentDesk desk = byRule(1, "year 400 0 499;period 10 1;period 20 2;period 30 3;period 40 4;share 0 100;");
        for (int day = 100; day < 140; day++) {
            desk.pay(day, 9);
        }
        // Of each INSTALMENT a row ahead of what is laid to it and eleven from then on; seven, where the PAYMENTS end.
        CHECKS.due("LATE rows", desk.now(7), 12 + 12 + 12 + 8);
        long[][] due = {{0, 10, 90, 100, 0}, {0, 100, 1, 91, 0}};
        for (int what = 0; what < 5; what++) {
            CHECKS.due("the first", Checks.late(desk, 0, what), due[0][what]);
            CHECKS.due("the second", Checks.late(desk, 1, what), due[1][what]);
        }
        long[] last = {3, 139, 360, 40, 0};
        for (int what = 0; what < 5; what++) {
            CHECKS.due("the last", Checks.late(desk, 43, what), last[what]);
        }
        CHECKS.due("behind the last", Checks.late(desk, 44, 0), Checks.THROWS);
    }

    private static void lateAfterAChange() {
        CHECKS.sentence("Of LATE row i 0 the INSTALMENT, 1 the first DAY, 2 how many DAYS, 3 what is UNPAID, 4 R.");
        InstalmentDesk desk = even("rate 0 5;");
        CHECKS.due("INSTALMENT 0", Checks.late(desk, 0, 0), 0);
        desk.pay(0, 100);
        CHECKS.due("INSTALMENT 1", Checks.late(desk, 0, 0), 1);
        desk.pay(25, 30);
        CHECKS.due("DAYS", Checks.late(desk, 0, 2), 5);
        CHECKS.due("UNPAID behind them", Checks.late(desk, 1, 3), 70);
        desk.undo();
        CHECKS.due("DAYS without it", Checks.late(desk, 0, 2), 20);
        desk.bar(0);
        CHECKS.due("nothing is asked for", Checks.late(desk, 0, 0), Checks.THROWS);
    }

    private static void rows(InstalmentDesk desk, long[][] due) {
        CHECKS.due("LATE rows", desk.now(7), due.length);
        for (int i = 0; i < due.length; i++) {
            for (int what = 0; what < 5; what++) {
                CHECKS.due("late(" + i + ", " + what + ")", Checks.late(desk, i, what), due[i][what]);
            }
        }
        CHECKS.due("behind the last row", Checks.late(desk, due.length, 0), Checks.THROWS);
    }
}
