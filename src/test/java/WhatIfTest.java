/** Promises 15 to 19: what it would cost if; nothing is changed by asking. */
public final class WhatIfTest {
    private static final Checks CHECKS = new Checks();
    // By rule 1 alone: an INSTALMENT of 1000 each, and a DAY's rate of 99.
    private static final String EVEN =
        "year 4000 0 400;period 100 1;period 200 2;period 300 3;period 400 4;share 0 100;rate 0 99;";

    public static void main(String[] args) {
        moved();
        were();
        belowNothing();
        barring();
        latest();
        latestByTrying();
        clears();
        CHECKS.close("WhatIfTest");
    }

    private static InstalmentDesk even(String more) {
        InstalmentDesk desk = Checks.told(EVEN + more);
        desk.bar(0);
        desk.bar(2);
        return desk;
    }

    private static void moved() {
        InstalmentDesk desk = Checks.told(Checks.YEAR);
        long[][] due = {{1, 160, 75}, {1, 99, 73}, {1, 170, 78}, {0, 95, 78}, {0, 0, 78}, {-1, 0, -1}, {2, 0, -1},
            {0, -1, -1}, {0, 500, -1}};
        for (long[] row : due) {
            CHECKS.due("moved(" + row[0] + ", " + row[1] + ")", desk.moved((int) row[0], (int) row[1]), row[2]);
        }
        CHECKS.due("COSTS as before", desk.now(4), 78);
        CHECKS.due("DAY as before", desk.payment(1, 0), 170);
        InstalmentDesk even = even("pay 100 4000;");
        CHECKS.due("on DUE", even.now(4), 0);
        CHECKS.due("a hundred DAYS late", even.moved(0, 200), 1000 * 100 * 99 / 100000);
        CHECKS.due("on END", even.moved(0, 400), 297 + 198 + 99);
        CHECKS.due("behind END", even.moved(0, 499), 297 + 198 + 99);
    }

    private static void were() {
        InstalmentDesk desk = Checks.told(Checks.YEAR);
        long[][] due = {{0, 0, 182}, {0, 1500, 78}, {1, 3000, 78}, {-1, 0, -1}, {2, 0, -1}, {0, -1, -1},
            {0, 100000, -1}};
        for (long[] row : due) {
            CHECKS.due("were(" + row[0] + ", " + row[1] + ")", desk.were((int) row[0], (int) row[1]), row[2]);
        }
        CHECKS.due("COSTS as before", desk.now(4), 78);
        CHECKS.due("AMOUNT as before", desk.payment(0, 1), 1500);
        InstalmentDesk even = even("pay 100 4000;");
        CHECKS.due("half", even.were(0, 2000), 99);
        CHECKS.due("nothing", even.were(0, 0), 297 + 198 + 99);
        CHECKS.due("most", even.were(0, 99999), 0);
    }

    private static void belowNothing() {
        // Money that was TAKEN BACK from a PAYMENT that were not there leaves less than nothing, which covers nothing.
        InstalmentDesk desk = even("pay 0 5000;");
        CHECKS.due("refund", desk.refund(0, 1000), 4000);
        CHECKS.due("were", desk.were(0, 0), 297 + 198 + 99);
        CHECKS.due("moved", desk.moved(0, 200), 99);
    }

    private static void barring() {
        InstalmentDesk desk = Checks.told(Checks.YEAR);
        long[] due = {78, 78, 143};
        for (int rule = 0; rule < 3; rule++) {
            long asked = desk.barring(rule);
            CHECKS.due("barring(" + rule + ")", asked, due[rule]);
            desk.bar(rule);
            CHECKS.due("COSTS with rule " + rule + " BARRED", desk.now(4), asked);
            CHECKS.due("barring a BARRED rule", desk.barring(rule), 78);
            desk.undo();
        }
        CHECKS.due("BARRED as before", desk.now(8), 0);
        CHECKS.due("barring(-1)", desk.barring(-1), -1);
        CHECKS.due("barring(3)", desk.barring(3), -1);
        CHECKS.due("barring(32)", desk.barring(32), -1);
        desk.bar(0);
        desk.bar(2);
        CHECKS.due("none would be left", desk.barring(1), -1);
        CHECKS.due("rule 0 again", desk.barring(0), 143);
    }

    private static void latest() {
        InstalmentDesk desk = Checks.told(Checks.YEAR);
        CHECKS.due("latest(500)", desk.latest(500), 121);
        CHECKS.due("latest(1)", desk.latest(1), 400);
        CHECKS.due("latest(0)", desk.latest(0), -1);
        CHECKS.due("latest(-1)", desk.latest(-1), -1);
        CHECKS.due("latest(100000)", desk.latest(100000), -1);
        CHECKS.due("COSTS as before", desk.now(4), 78);
        CHECKS.due("PAYMENTS as before", desk.now(5), 2);
        CHECKS.due("nothing to undo", desk.now(9), 0);
        CHECKS.due("of all", even("").latest(4000), 101);
        CHECKS.due("nothing to spare", even("pay 0 4000;").latest(99999), 400);
        InstalmentDesk early = Checks.told(
            "year 8000 0 9;period 0 1;period 1 2;period 2 3;period 3 4;share 0 100;rate 0 99;");
        early.bar(0);
        early.bar(2);
        CHECKS.due("DUE on DAY 0", early.latest(8000), 0);
        CHECKS.due("a new object", new InstalmentDesk().latest(99999), 0);
        InstalmentDesk full = even("");
        for (int i = 0; i < 40; i++) {
            full.pay(400, 1);
        }
        CHECKS.due("with 40 PAYMENTS", full.latest(4000), 101);
    }

    private static void latestByTrying() {
        InstalmentDesk desk = Checks.told(Checks.YEAR);
        for (int amount = 1; amount < 12000; amount += 397) {
            int best = 0;
            int lowest = 0;
            for (int day = 0; day <= 400; day++) {
                desk.pay(day, amount);
                int costs = desk.now(4);
                desk.undo();
                lowest = day == 0 ? costs : lowest;
                best = costs == lowest ? day : best;
            }
            CHECKS.due("latest(" + amount + ")", desk.latest(amount), best);
        }
    }

    private static void clears() {
        InstalmentDesk desk = Checks.told(Checks.YEAR);
        long[][] due = {{0, 9400}, {94, 9400}, {95, 7900}, {169, 7900}, {170, 4900}, {400, 4900}, {499, 4900},
            {-1, -1}, {500, -1}};
        for (long[] row : due) {
            CHECKS.due("clears(" + row[0] + ")", desk.clears((int) row[0]), row[1]);
        }
        desk.pay(450, 10000);
        CHECKS.due("covered behind END", desk.clears(450), 0);
        CHECKS.due("and not ahead", desk.clears(449), 4900);
    }
}
