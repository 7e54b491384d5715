/** The boundary cases of promises 15 to 24, a method for each sentence that names one. */
public final class EdgesOfChangesTest {
    private static final Checks CHECKS = new Checks();
    // By rule 1 alone an INSTALMENT of 20000 each; a DAY on which one is not covered costs 10.
    private static final String EVEN =
        "year 80000 0 40;period 10 1;period 20 2;period 30 3;period 40 4;share 0 100;rate 0 50;";
    private static final int[] NO_DAYS = {-1, 500, Integer.MIN_VALUE, Integer.MAX_VALUE};
    private static final int[] NO_RULES = {-1, 3, 31, 32, 34, Integer.MIN_VALUE, Integer.MAX_VALUE};
    private static final int[] NO_AMOUNTS = {0, -1, 100000, Integer.MIN_VALUE, Integer.MAX_VALUE};

    public static void main(String[] args) {
        movedDays();
        movedNone();
        wereAmounts();
        wereNone();
        barringOrNot();
        barringNone();
        latestDay();
        latestNone();
        clearsAll();
        clearsNone();
        asked();
        earnAtEdges();
        earnNotSo();
        earnFull();
        payAtEdges();
        payNotSo();
        payFull();
        refundAtEdges();
        refundNotSo();
        refundCannotBe();
        refundFull();
        barOrNot();
        barNone();
        undoTwelve();
        undoNone();
        undoOfWhatWasDone();
        CHECKS.close("EdgesOfChangesTest");
    }

    private static InstalmentDesk even(String more) {
        InstalmentDesk desk = Checks.told(EVEN + more);
        desk.bar(0);
        desk.bar(2);
        return desk;
    }

    private static void movedDays() {
        CHECKS.sentence("COSTS together, were PAYMENT k on another DAY (0 to 499).");
        InstalmentDesk desk = even("pay 20 20000;pay 5 20000;");
        // PAYMENT 1 covers INSTALMENT 0; INSTALMENT 2 is open for ten DAYS, whatever comes.
        long[][] due = {{0, 0, 100}, {0, 20, 100}, {0, 21, 110}, {0, 39, 290}, {0, 40, 300}, {0, 41, 300}, {0, 499, 300},
            {1, 0, 100}, {1, 5, 100}, {1, 10, 100}, {1, 11, 110}, {1, 19, 190}, {1, 20, 200}, {1, 499, 400}};
        for (long[] row : due) {
            CHECKS.due("moved(" + row[0] + ", " + row[1] + ")", desk.moved((int) row[0], (int) row[1]), row[2]);
        }
        CHECKS.due("COSTS", desk.now(4), 100);
    }

    private static void movedNone() {
        CHECKS.sentence("NONE: no such ones.");
        InstalmentDesk desk = even("pay 20 20000;pay 5 20000;");
        for (int day : NO_DAYS) {
            CHECKS.due("moved(0, " + day + ")", desk.moved(0, day), -1);
            CHECKS.due("moved(1, " + day + ")", desk.moved(1, day), -1);
        }
        for (int k : new int[] {-1, 2, 40, Integer.MIN_VALUE, Integer.MAX_VALUE}) {
            CHECKS.due("moved(" + k + ", 0)", desk.moved(k, 0), -1);
            CHECKS.due("moved(" + k + ", 499)", desk.moved(k, 499), -1);
        }
        for (int k = 2; k < 40; k++) {
            desk.pay(499, 1);
        }
        CHECKS.due("the last of 40", desk.moved(39, 0), 99);
        CHECKS.due("behind the last of 40", desk.moved(40, 0), -1);
        desk.undo();
        CHECKS.due("undone", desk.moved(39, 0), -1);
        CHECKS.due("of none", new InstalmentDesk().moved(0, 0), -1);
    }

    private static void wereAmounts() {
        CHECKS.sentence("COSTS together, were PAYMENT k another AMOUNT (0: it is not there, to 99999).");
        InstalmentDesk desk = even("pay 0 20000;pay 20 20000;");
        long[][] due = {{0, 20000, 100}, {0, 0, 400}, {0, 10000, 250}, {0, 30000, 50}, {0, 40000, 0}, {0, 99999, 0},
            {1, 20000, 100}, {1, 0, 300}, {1, 40000, 0}, {1, 39999, 0}, {1, 30000, 50}, {1, 99999, 0}};
        for (long[] row : due) {
            CHECKS.due("were(" + row[0] + ", " + row[1] + ")", desk.were((int) row[0], (int) row[1]), row[2]);
        }
        CHECKS.due("COSTS", desk.now(4), 100);
        CHECKS.due("PAYMENTS", desk.now(5), 2);
    }

    private static void wereNone() {
        CHECKS.sentence("NONE: no such ones.");
        InstalmentDesk desk = even("pay 0 20000;");
        for (int amount : new int[] {-1, 100000, Integer.MIN_VALUE, Integer.MAX_VALUE}) {
            CHECKS.due("were(0, " + amount + ")", desk.were(0, amount), -1);
        }
        for (int k : new int[] {-1, 1, 40, Integer.MIN_VALUE, Integer.MAX_VALUE}) {
            CHECKS.due("were(" + k + ", 0)", desk.were(k, 0), -1);
            CHECKS.due("were(" + k + ", 99999)", desk.were(k, 99999), -1);
        }
        CHECKS.due("of none", new InstalmentDesk().were(0, 0), -1);
    }

    private static void barringOrNot() {
        CHECKS.sentence("COSTS together, were a rule BARRED (or, if it is, not).");
        InstalmentDesk desk = Checks.told(EVEN);
        for (int rule = 0; rule < 3; rule++) {
            CHECKS.due("rule " + rule + " of three", desk.barring(rule), 0);
        }
        desk.bar(0);
        CHECKS.due("rule 2 also", desk.barring(2), 600);
        CHECKS.due("rule 1 also", desk.barring(1), 0);
        CHECKS.due("rule 0 not any more", desk.barring(0), 0);
        desk.bar(2);
        CHECKS.due("COSTS", desk.now(4), 600);
        CHECKS.due("rule 2 not any more", desk.barring(2), 0);
        CHECKS.due("rule 0 not any more", desk.barring(0), 0);
        CHECKS.due("BARRED", desk.now(8), 5);
        CHECKS.due("to undo", desk.now(9), 2);
    }

    private static void barringNone() {
        CHECKS.sentence("NONE: no such rule, none would be left.");
        InstalmentDesk desk = Checks.told(EVEN);
        for (int rule : NO_RULES) {
            CHECKS.due("barring(" + rule + ")", desk.barring(rule), -1);
        }
        for (int left = 0; left < 3; left++) {
            InstalmentDesk one = Checks.told(EVEN);
            for (int rule = 0; rule < 3; rule++) {
                if (rule != left) {
                    one.bar(rule);
                }
            }
            CHECKS.due("rule " + left + " is the last one", one.barring(left), -1);
            for (int rule : NO_RULES) {
                CHECKS.due("barring(" + rule + ")", one.barring(rule), -1);
            }
            CHECKS.due("another one", one.barring((left + 1) % 3), 0);
        }
    }

    private static void latestDay() {
        CHECKS.sentence("The latest DAY (0 to END) on which a further PAYMENT of an AMOUNT (1 to 99999) would bring COSTS"
            + " as low as on DAY 0.");
        InstalmentDesk desk = even("");
        CHECKS.due("INSTALMENT 0", desk.latest(20000), 10);
        CHECKS.due("so little that a DAY of it spares as much", desk.latest(1), 39);
        CHECKS.due("most", desk.latest(99999), 10);
        CHECKS.due("COSTS", desk.now(4), 600);
        CHECKS.due("INSTALMENT 1", even("pay 0 20000;").latest(20000), 20);
        CHECKS.due("INSTALMENT 2", even("pay 0 40000;").latest(20000), 30);
        CHECKS.due("INSTALMENT 3, which costs nothing", even("pay 0 60000;").latest(20000), 40);
        // Of 10000 more than is needed a part could come later, but it comes at once.
        CHECKS.due("more than INSTALMENT 2", even("pay 0 40000;").latest(30000), 30);
        // Ten DAYS of 100 cost half of 1, which is rounded down.
        CHECKS.due("nothing to spare", even("pay 0 40000;pay 30 19900;").latest(100), 40);
        CHECKS.due("DAY 0 alone", onDayZero().latest(20000), 0);
        CHECKS.due("END 0", new InstalmentDesk().latest(99999), 0);
        InstalmentDesk last = Checks.told(EVEN.replace("80000 0 40", "80000 0 499"));
        CHECKS.due("END 499", last.latest(1), 499);
        InstalmentDesk full = even("pay 499 1;".repeat(20));
        for (int i = 0; i < 20; i++) {
            full.pay(499, 1);
        }
        CHECKS.due("PAYMENTS are 40", full.latest(20000), 10);
        CHECKS.due("and stay so", full.now(5), 40);
    }

    private static InstalmentDesk onDayZero() {
        InstalmentDesk desk = Checks.told(
            "year 80000 0 3;period 0 1;period 1 2;period 2 3;period 3 4;share 0 100;rate 0 50;");
        desk.bar(0);
        desk.bar(2);
        return desk;
    }

    private static void latestNone() {
        CHECKS.sentence("NONE: another AMOUNT.");
        InstalmentDesk desk = even("");
        for (int amount : NO_AMOUNTS) {
            CHECKS.due("latest(" + amount + ")", desk.latest(amount), -1);
        }
        CHECKS.due("latest(1)", desk.latest(1), 39);
        CHECKS.due("latest(99999)", desk.latest(99999), 10);
    }

    private static void clearsAll() {
        CHECKS.sentence("What must be PAID further on a DAY (0 to 499) so that all INSTALMENTS that are DUE by END are covered"
            + " at it.");
        InstalmentDesk desk = even("pay 10 79999;pay 41 1;pay 499 1;");
        long[][] due = {{0, 80000}, {9, 80000}, {10, 1}, {39, 1}, {40, 1}, {41, 0}, {498, 0}, {499, 0}};
        for (long[] row : due) {
            CHECKS.due("clears(" + row[0] + ")", desk.clears((int) row[0]), row[1]);
        }
        CHECKS.due("paid further", desk.pay(40, desk.clears(40)), 3);
        CHECKS.due("UNPAID", desk.unpaid(3, 40), 0);
        CHECKS.due("no more", desk.clears(40), 0);
        InstalmentDesk credit = Checks.told(EVEN.replace("80000 0", "80000 99999"));
        CHECKS.due("nothing is asked for", credit.clears(0), 0);
        credit.bar(0);
        credit.bar(2);
        CHECKS.due("CREDIT is above it", credit.clears(0), 0);
        CHECKS.due("refund", credit.refund(5, 19999), 80000);
        CHECKS.due("TAKEN BACK", credit.clears(5), 0);
    }

    private static void clearsNone() {
        CHECKS.sentence("NONE: another DAY.");
        InstalmentDesk desk = even("");
        for (int day : NO_DAYS) {
            CHECKS.due("clears(" + day + ")", desk.clears(day), -1);
        }
        CHECKS.due("clears(0)", desk.clears(0), 80000);
        CHECKS.due("clears(499)", desk.clears(499), 80000);
    }

    private static void asked() {
        CHECKS.sentence("what it would cost if a payment came on another day, were less or not there, if a rule were barred");
        // By what is asked alone nothing changes, whatever the answer is.
        InstalmentDesk desk = Checks.told(EVEN + "pay 5 20000;");
        desk.refund(7, 1);
        desk.bar(0);
        desk.bar(2);
        for (int number : new int[] {-1, 0, 1, 2, 3, 40, 499, 500, 99999, 100000}) {
            desk.moved(0, number);
            desk.were(0, number);
            desk.barring(number);
            desk.latest(number);
            desk.clears(number);
            CHECKS.due("COSTS", desk.now(4), 300);
            CHECKS.due("BARRED", desk.now(8), 5);
            CHECKS.due("PAID", desk.now(2), 19999);
            CHECKS.due("to undo", desk.now(9), 3);
            CHECKS.due("DAY", desk.payment(0, 0), 5);
            CHECKS.due("AMOUNT", desk.payment(0, 1), 20000);
        }
    }

    private static void earnAtEdges() {
        CHECKS.sentence("INCOME comes on a DAY (0 to 364; 1 to 99999): all INCOME then.");
        InstalmentDesk desk = Checks.told(EVEN + "income 5 10;");
        CHECKS.due("earn(0, 1)", desk.earn(0, 1), 11);
        CHECKS.due("earn(364, 99999)", desk.earn(364, 99999), 100010);
        CHECKS.due("earn(0, 99999)", desk.earn(0, 99999), 200009);
        CHECKS.due("earn(364, 1)", desk.earn(364, 1), 200010);
        CHECKS.due("on DAY 0", desk.income(0), 100000);
        CHECKS.due("up to DAY 363", desk.income(363), 100010);
        CHECKS.due("up to DAY 364", desk.income(364), 200010);
        CHECKS.due("to undo", desk.now(9), 4);
    }

    private static void earnNotSo() {
        CHECKS.sentence("NONE: not so;");
        InstalmentDesk desk = Checks.told(EVEN + "income 5 10;");
        for (int amount : NO_AMOUNTS) {
            CHECKS.due("earn(0, " + amount + ")", desk.earn(0, amount), -1);
            CHECKS.due("earn(364, " + amount + ")", desk.earn(364, amount), -1);
        }
        for (int day : new int[] {-1, 365, 499, Integer.MIN_VALUE, Integer.MAX_VALUE}) {
            CHECKS.due("earn(" + day + ", 1)", desk.earn(day, 1), -1);
            CHECKS.due("earn(" + day + ", 99999)", desk.earn(day, 99999), -1);
        }
        CHECKS.due("INCOME", desk.now(0), 10);
        CHECKS.due("to undo", desk.now(9), 0);
    }

    private static void earnFull() {
        CHECKS.sentence("-2: there are 40 such.");
        InstalmentDesk desk = Checks.told(EVEN + "income 5 1;".repeat(20));
        for (int i = 21; i <= 40; i++) {
            CHECKS.due("earn", desk.earn(6, 1), i);
        }
        CHECKS.due("the 41st", desk.earn(6, 1), -2);
        CHECKS.due("the 41st again", desk.earn(364, 99999), -2);
        CHECKS.due("not so either", desk.earn(365, 1), -1);
        CHECKS.due("not so either", desk.earn(0, 0), -1);
        CHECKS.due("INCOME", desk.now(0), 40);
        CHECKS.due("to undo", desk.now(9), 12);
        CHECKS.due("undo", desk.undo(), 11);
        CHECKS.due("the 40th anew", desk.earn(7, 5), 44);
        CHECKS.due("the 41st", desk.earn(7, 5), -2);
        CHECKS.due("PAYMENTS have room yet", desk.pay(0, 1), 0);
        Checks.tell(desk, "");
        for (int i = 1; i <= 40; i++) {
            CHECKS.due("earn anew", desk.earn(6, 1), i);
        }
        CHECKS.due("the 41st anew", desk.earn(6, 1), -2);
    }

    private static void payAtEdges() {
        CHECKS.sentence("A PAYMENT on a DAY (0 to 499; 1 to 99999): its number.");
        InstalmentDesk desk = even("");
        CHECKS.due("pay(0, 1)", desk.pay(0, 1), 0);
        CHECKS.due("pay(499, 99999)", desk.pay(499, 99999), 1);
        CHECKS.due("pay(0, 99999)", desk.pay(0, 99999), 2);
        CHECKS.due("pay(499, 1)", desk.pay(499, 1), 3);
        CHECKS.due("up to END", desk.now(2), 100000);
        CHECKS.due("on DAY 499", desk.free(499), 120000);
        CHECKS.due("DAY", desk.payment(3, 0), 499);
        CHECKS.due("AMOUNT", desk.payment(2, 1), 99999);
        CHECKS.due("to undo", desk.now(9), 6);
    }

    private static void payNotSo() {
        CHECKS.sentence("NONE: not so;");
        InstalmentDesk desk = even("pay 1 1;");
        for (int amount : NO_AMOUNTS) {
            CHECKS.due("pay(0, " + amount + ")", desk.pay(0, amount), -1);
            CHECKS.due("pay(499, " + amount + ")", desk.pay(499, amount), -1);
        }
        for (int day : NO_DAYS) {
            CHECKS.due("pay(" + day + ", 1)", desk.pay(day, 1), -1);
            CHECKS.due("pay(" + day + ", 99999)", desk.pay(day, 99999), -1);
        }
        CHECKS.due("PAYMENTS", desk.now(5), 1);
        CHECKS.due("to undo", desk.now(9), 2);
    }

    private static void payFull() {
        CHECKS.sentence("-2: there are 40.");
        InstalmentDesk desk = Checks.told(EVEN + "pay 5 1;".repeat(20));
        for (int i = 20; i < 40; i++) {
            CHECKS.due("pay", desk.pay(6, 1), i);
        }
        CHECKS.due("the 41st", desk.pay(6, 1), -2);
        CHECKS.due("the 41st again", desk.pay(499, 99999), -2);
        CHECKS.due("not so either", desk.pay(500, 1), -1);
        CHECKS.due("not so either", desk.pay(0, 100000), -1);
        CHECKS.due("PAYMENTS", desk.now(5), 40);
        CHECKS.due("PAID", desk.now(2), 40);
        CHECKS.due("to undo", desk.now(9), 12);
        CHECKS.due("undo", desk.undo(), 11);
        CHECKS.due("the 40th anew", desk.pay(7, 5), 39);
        CHECKS.due("the 41st", desk.pay(7, 5), -2);
        CHECKS.due("INCOME has room yet", desk.earn(0, 1), 1);
        Checks.tell(desk, "");
        for (int i = 0; i < 40; i++) {
            CHECKS.due("pay anew", desk.pay(6, 1), i);
        }
        CHECKS.due("the 41st anew", desk.pay(6, 1), -2);
    }

    private static void refundAtEdges() {
        CHECKS.sentence("An AMOUNT (1 to 99999) is TAKEN BACK on a DAY (0 to END): what is FREE at it then.");
        InstalmentDesk desk = even("");
        desk.pay(0, 99999);
        desk.pay(0, 99999);
        CHECKS.due("on DAY 0", desk.refund(0, 1), 199997);
        CHECKS.due("on END", desk.refund(40, 99999), 19998);
        CHECKS.due("FREE ahead of it", desk.free(39), 139997);
        CHECKS.due("all that is FREE", desk.refund(40, 19998), 0);
        CHECKS.due("TAKEN BACK", desk.now(6), 119998);
        CHECKS.due("PAID", desk.now(2), 80000);
        CHECKS.due("COSTS", desk.now(4), 0);
        CHECKS.due("to undo", desk.now(9), 7);
        InstalmentDesk first = new InstalmentDesk();
        first.pay(0, 5);
        CHECKS.due("END 0", first.refund(0, 5), 0);
        InstalmentDesk last = Checks.told(EVEN.replace("80000 0 40", "0 5 499"));
        CHECKS.due("END 499", last.refund(499, 5), 0);
    }

    private static void refundNotSo() {
        CHECKS.sentence("NONE: not so,");
        InstalmentDesk desk = even("pay 0 99999;pay 0 99999;pay 0 99999;");
        for (int amount : NO_AMOUNTS) {
            CHECKS.due("refund(0, " + amount + ")", desk.refund(0, amount), -1);
            CHECKS.due("refund(40, " + amount + ")", desk.refund(40, amount), -1);
        }
        for (int day : new int[] {-1, 41, 499, 500, Integer.MIN_VALUE, Integer.MAX_VALUE}) {
            CHECKS.due("refund(" + day + ", 1)", desk.refund(day, 1), -1);
        }
        CHECKS.due("TAKEN BACK", desk.now(6), 0);
        CHECKS.due("to undo", desk.now(9), 2);
        CHECKS.due("END 0", new InstalmentDesk().refund(1, 1), -1);
        InstalmentDesk last = Checks.told(EVEN.replace("80000 0 40", "0 5 499"));
        CHECKS.due("END 499", last.refund(500, 1), -1);
    }

    private static void refundCannotBe() {
        CHECKS.sentence("it can't be;");
        InstalmentDesk desk = even("pay 0 20000;pay 15 50000;pay 39 30000;");
        // FREE: 20000, 0 from 10, 50000 from 15, 30000 from 20, 10000 from 30, 40000 on 39, 20000 on END.
        CHECKS.due("not FREE on 10", desk.refund(0, 1), -1);
        CHECKS.due("not FREE on 10", desk.refund(10, 1), -1);
        CHECKS.due("one more than is FREE on 30", desk.refund(15, 10001), -1);
        CHECKS.due("one more than is FREE on END", desk.refund(39, 20001), -1);
        CHECKS.due("nothing is TAKEN BACK", desk.now(6), 0);
        CHECKS.due("to undo", desk.now(9), 2);
        CHECKS.due("as much as is FREE on 30", desk.refund(15, 10000), 40000);
        CHECKS.due("one more than is left on END", desk.refund(39, 10001), -1);
        CHECKS.due("as much as is left on END", desk.refund(39, 10000), 20000);
        CHECKS.due("nothing is left", desk.refund(40, 1), -1);
        CHECKS.due("of nothing", new InstalmentDesk().refund(0, 1), -1);
    }

    private static void refundFull() {
        CHECKS.sentence("-2: it was 20 times.");
        InstalmentDesk desk = even("pay 0 99999;");
        for (int i = 1; i <= 20; i++) {
            CHECKS.due("refund", desk.refund(40, 1), 19999 - i);
        }
        CHECKS.due("the 21st", desk.refund(40, 1), -2);
        CHECKS.due("the 21st again", desk.refund(0, 1), -2);
        CHECKS.due("the 21st, all that is FREE", desk.refund(40, 19979), -2);
        CHECKS.due("not so either", desk.refund(41, 1), -1);
        CHECKS.due("not so either", desk.refund(40, 0), -1);
        CHECKS.due("it can't be either", desk.refund(40, 19980), -1);
        CHECKS.due("TAKEN BACK", desk.now(6), 20);
        CHECKS.due("to undo", desk.now(9), 12);
        CHECKS.due("undo", desk.undo(), 11);
        CHECKS.due("the 20th anew", desk.refund(40, 2), 19978);
        CHECKS.due("the 21st", desk.refund(40, 1), -2);
        Checks.tell(desk, EVEN + "pay 0 99999;");
        for (int i = 1; i <= 20; i++) {
            CHECKS.due("refund anew", desk.refund(0, 1), 99999 - i);
        }
        CHECKS.due("the 21st anew", desk.refund(0, 1), -2);
    }

    private static void barOrNot() {
        CHECKS.sentence("A rule is BARRED, or not any more: rules that are (bits).");
        int[][] turns = {{0, 1}, {1, 3}, {0, 2}, {2, 6}, {1, 4}, {0, 5}, {2, 1}, {0, 0}};
        InstalmentDesk desk = Checks.told(EVEN);
        for (int[] turn : turns) {
            CHECKS.due("bar(" + turn[0] + ")", desk.bar(turn[0]), turn[1]);
            CHECKS.due("BARRED", desk.now(8), turn[1]);
        }
        CHECKS.due("to undo", desk.now(9), 8);
    }

    private static void barNone() {
        CHECKS.sentence("NONE: no such one, none would be left.");
        InstalmentDesk desk = Checks.told(EVEN);
        for (int rule : NO_RULES) {
            CHECKS.due("bar(" + rule + ")", desk.bar(rule), -1);
        }
        CHECKS.due("BARRED", desk.now(8), 0);
        CHECKS.due("to undo", desk.now(9), 0);
        for (int left = 0; left < 3; left++) {
            desk.bar((left + 1) % 3);
            desk.bar((left + 2) % 3);
            CHECKS.due("rule " + left + " is the last one", desk.bar(left), -1);
            CHECKS.due("BARRED", desk.now(8), 7 - (1 << left));
            CHECKS.due("to undo", desk.now(9), 2);
            desk.undo();
            desk.undo();
        }
        CHECKS.due("BARRED no more", desk.now(8), 0);
    }

    private static void undoTwelve() {
        CHECKS.sentence("how many more can be (12 at most are kept)");
        for (int deeds = 1; deeds <= 14; deeds++) {
            InstalmentDesk desk = Checks.told(EVEN);
            for (int i = 0; i < deeds; i++) {
                desk.pay(0, 1);
            }
            int kept = Math.min(12, deeds);
            CHECKS.due("kept of " + deeds, desk.now(9), kept);
            for (int more = kept - 1; more >= 0; more--) {
                CHECKS.due("undo", desk.undo(), more);
            }
            CHECKS.due("no more", desk.undo(), -1);
            CHECKS.due("what stays of " + deeds, desk.now(5), deeds - kept);
        }
        // Of thirteen the first stays done, whatever it was.
        InstalmentDesk desk = Checks.told(EVEN);
        desk.earn(0, 5);
        for (int i = 0; i < 3; i++) {
            desk.bar(i);
            desk.pay(0, 9);
            desk.refund(0, 1);
            desk.bar(i);
        }
        CHECKS.due("kept", desk.now(9), 12);
        for (int more = 11; more >= 0; more--) {
            CHECKS.due("undo", desk.undo(), more);
        }
        long[] due = {5, 0, 0, 0, 0, 0, 0, 0, 0, 0, 0};
        for (int what = 0; what <= 10; what++) {
            CHECKS.due("now(" + what + ")", desk.now(what), due[what]);
        }
    }

    private static void undoNone() {
        CHECKS.sentence("NONE: none is.");
        InstalmentDesk desk = new InstalmentDesk();
        CHECKS.due("of a new object", desk.undo(), -1);
        Checks.tell(desk, EVEN + "income 1 1;pay 1 1;");
        CHECKS.due("of a TEXT", desk.undo(), -1);
        CHECKS.due("INCOME stays", desk.now(0), 1);
        CHECKS.due("PAYMENTS stay", desk.now(5), 1);
        desk.pay(1, 1);
        CHECKS.due("one", desk.undo(), 0);
        CHECKS.due("none", desk.undo(), -1);
        CHECKS.due("none again", desk.undo(), -1);
        CHECKS.due("PAYMENTS stay", desk.now(5), 1);
        CHECKS.due("to undo", desk.now(9), 0);
        desk.pay(1, 1);
        Checks.tell(desk, EVEN);
        CHECKS.due("a new TEXT", desk.undo(), -1);
        CHECKS.due("PAYMENTS of it", desk.now(5), 0);
    }

    private static void undoOfWhatWasDone() {
        CHECKS.sentence("The latest earn(), pay(), refund(), bar() that was done is undone");
        InstalmentDesk desk = even("pay 0 99999;");
        desk.earn(3, 3);
        // None of these is done.
        desk.earn(365, 1);
        desk.pay(500, 1);
        desk.refund(41, 1);
        desk.refund(40, 20000);
        desk.bar(1);
        desk.bar(3);
        desk.moved(0, 5);
        desk.were(0, 5);
        desk.barring(0);
        desk.latest(5);
        desk.clears(5);
        Checks.tell(desk, "?");
        CHECKS.due("to undo", desk.now(9), 3);
        CHECKS.due("undo earn", desk.undo(), 2);
        CHECKS.due("INCOME", desk.now(0), 0);
        CHECKS.due("refund", desk.refund(40, 19999), 0);
        CHECKS.due("undo refund", desk.undo(), 2);
        CHECKS.due("FREE again", desk.refund(40, 19999), 0);
        desk.undo();
        CHECKS.due("undo bar", desk.undo(), 1);
        CHECKS.due("BARRED", desk.now(8), 1);
        CHECKS.due("undo bar", desk.undo(), 0);
        CHECKS.due("BARRED", desk.now(8), 0);
        CHECKS.due("the TEXT stays", desk.now(5), 1);
    }
}
