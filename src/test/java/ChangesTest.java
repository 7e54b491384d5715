/** Promises 20 to 24: earn, pay, refund, bar, undo. */
public final class ChangesTest {
    private static final Checks CHECKS = new Checks();
    private static final int[] WRONG_AMOUNTS = {0, -1, 100000, Integer.MIN_VALUE, Integer.MAX_VALUE};

    public static void main(String[] args) {
        earn();
        pay();
        refund();
        refundWhileFree();
        refundTwentyTimes();
        bar();
        undo();
        undoTwelve();
        undoneRoom();
        CHECKS.close("ChangesTest");
    }

    private static void earn() {
        InstalmentDesk desk = Checks.told(Checks.YEAR);
        for (int amount : WRONG_AMOUNTS) {
            CHECKS.due("earn(0, " + amount + ")", desk.earn(0, amount), -1);
        }
        CHECKS.due("earn(-1, 1)", desk.earn(-1, 1), -1);
        CHECKS.due("earn(365, 1)", desk.earn(365, 1), -1);
        CHECKS.due("nothing was done", desk.now(9), 0);
        CHECKS.due("earn(364, 99999)", desk.earn(364, 99999), 159999);
        CHECKS.due("INCOME ahead of it", desk.income(363), 60000);
        CHECKS.due("earn(0, 1)", desk.earn(0, 1), 160000);
        CHECKS.due("INCOME on it", desk.income(0), 1);
        for (int i = 5; i < 40; i++) {
            CHECKS.due("earn", desk.earn(7, 1), 160000 + i - 4);
        }
        CHECKS.due("40 such", desk.earn(7, 1), -2);
        CHECKS.due("40 such, and wrong", desk.earn(365, 1), -1);
        CHECKS.due("INCOME", desk.now(0), 160035);
    }

    private static void pay() {
        InstalmentDesk desk = Checks.told(Checks.YEAR);
        for (int amount : WRONG_AMOUNTS) {
            CHECKS.due("pay(0, " + amount + ")", desk.pay(0, amount), -1);
        }
        CHECKS.due("pay(-1, 1)", desk.pay(-1, 1), -1);
        CHECKS.due("pay(500, 1)", desk.pay(500, 1), -1);
        CHECKS.due("nothing was done", desk.now(9), 0);
        CHECKS.due("pay(499, 99999)", desk.pay(499, 99999), 2);
        CHECKS.due("pay(0, 1)", desk.pay(0, 1), 3);
        for (int i = 4; i < 40; i++) {
            CHECKS.due("pay", desk.pay(400, 1), i);
        }
        CHECKS.due("40 such", desk.pay(7, 1), -2);
        CHECKS.due("40 such, and wrong", desk.pay(7, 0), -1);
        CHECKS.due("PAID", desk.now(2), 5037);
    }

    private static void refund() {
        InstalmentDesk desk = Checks.told(Checks.YEAR);
        desk.pay(240, 10000);
        for (int amount : WRONG_AMOUNTS) {
            CHECKS.due("refund(300, " + amount + ")", desk.refund(300, amount), -1);
        }
        CHECKS.due("refund(-1, 1)", desk.refund(-1, 1), -1);
        CHECKS.due("refund(401, 1)", desk.refund(401, 1), -1);
        CHECKS.due("more than is FREE on END", desk.refund(300, 5101), -1);
        CHECKS.due("nothing was done", desk.now(9), 1);
        CHECKS.due("all of it", desk.refund(300, 5100), 4416);
        CHECKS.due("no more", desk.refund(300, 1), -1);
        CHECKS.due("UNPAID", desk.unpaid(3, 400), 0);
        CHECKS.due("COSTS", desk.now(4), 5);
        CHECKS.due("FREE", desk.free(400), 0);
        CHECKS.due("undo", desk.undo(), 1);
        CHECKS.due("on END itself", desk.refund(400, 5100), 0);
    }

    private static void refundWhileFree() {
        // By rule 1 alone: an INSTALMENT of 100 each.
        InstalmentDesk desk = Checks.told(
            "year 400 100 40;period 10 1;period 20 2;period 30 3;period 40 4;share 0 100;");
        desk.bar(0);
        desk.bar(2);
        desk.pay(20, 100);
        desk.pay(30, 150);
        CHECKS.due("what covers INSTALMENT 0", desk.refund(0, 1), -1);
        CHECKS.due("INSTALMENT 3 on END counts", desk.refund(30, 50), -1);
        desk.pay(40, 300);
        CHECKS.due("a gap ahead of END counts", desk.refund(20, 1), -1);
        CHECKS.due("FREE from a DAY on", desk.refund(30, 51), -1);
        CHECKS.due("as much as is FREE", desk.refund(30, 50), 0);
        CHECKS.due("FREE on END", desk.refund(40, 200), 0);
        CHECKS.due("TAKEN BACK", desk.now(6), 250);
        CHECKS.due("PAID", desk.now(2), 400);
        CHECKS.due("INSTALMENTS may rise behind it", desk.bar(0), 4);
    }

    private static void refundTwentyTimes() {
        InstalmentDesk desk = new InstalmentDesk();
        desk.pay(0, 100);
        for (int i = 1; i <= 20; i++) {
            CHECKS.due("refund " + i, desk.refund(0, 1), 100 - i);
        }
        CHECKS.due("refund 21", desk.refund(0, 1), -2);
        CHECKS.due("refund 21, and wrong", desk.refund(0, 0), -1);
        CHECKS.due("refund 21, and too much", desk.refund(0, 81), -1);
        CHECKS.due("TAKEN BACK", desk.now(6), 20);
        desk.undo();
        CHECKS.due("refund 20 again", desk.refund(0, 80), 1);
    }

    private static void bar() {
        InstalmentDesk desk = Checks.told(Checks.YEAR);
        int[] wrong = {-1, 3, 32, Integer.MIN_VALUE, Integer.MAX_VALUE};
        for (int rule : wrong) {
            CHECKS.due("bar(" + rule + ")", desk.bar(rule), -1);
        }
        CHECKS.due("bar(2)", desk.bar(2), 4);
        CHECKS.due("bar(1)", desk.bar(1), 6);
        CHECKS.due("none would be left", desk.bar(0), -1);
        CHECKS.due("to undo", desk.now(9), 2);
        CHECKS.due("bar(2) again", desk.bar(2), 2);
        CHECKS.due("bar(0)", desk.bar(0), 3);
        CHECKS.due("none would be left", desk.bar(2), -1);
        CHECKS.due("LEAST by", desk.period(3, 4), 2);
    }

    private static void undo() {
        InstalmentDesk desk = Checks.told(Checks.YEAR);
        desk.pay(10, 99999);
        desk.refund(20, 5);
        desk.earn(30, 7);
        desk.bar(1);
        desk.pay(-1, 0);
        desk.refund(500, 1);
        desk.earn(400, 1);
        desk.bar(9);
        CHECKS.due("what was not done is not kept", desk.now(9), 4);
        CHECKS.due("undo bar", desk.undo(), 3);
        CHECKS.due("BARRED", desk.now(8), 0);
        CHECKS.due("INCOME yet", desk.now(0), 60007);
        CHECKS.due("undo earn", desk.undo(), 2);
        CHECKS.due("INCOME", desk.now(0), 60000);
        CHECKS.due("TAKEN BACK yet", desk.now(6), 5);
        CHECKS.due("undo refund", desk.undo(), 1);
        CHECKS.due("TAKEN BACK", desk.now(6), 0);
        CHECKS.due("PAYMENTS yet", desk.now(5), 3);
        CHECKS.due("undo pay", desk.undo(), 0);
        CHECKS.due("PAYMENTS", desk.now(5), 2);
        CHECKS.due("COSTS", desk.now(4), 78);
        CHECKS.due("no more", desk.undo(), -1);
        CHECKS.due("no more", desk.now(9), 0);
        desk.bar(0);
        desk.bar(0);
        CHECKS.due("undo what made it not BARRED", desk.undo(), 1);
        CHECKS.due("BARRED again", desk.now(8), 1);
    }

    private static void undoTwelve() {
        InstalmentDesk desk = Checks.told(Checks.YEAR);
        for (int i = 1; i <= 15; i++) {
            CHECKS.due("pay", desk.pay(i, i), i + 1);
            CHECKS.due("kept", desk.now(9), Math.min(12, i));
        }
        for (int i = 11; i >= 0; i--) {
            CHECKS.due("undo", desk.undo(), i);
            CHECKS.due("PAYMENTS", desk.now(5), 5 + i);
        }
        CHECKS.due("no more", desk.undo(), -1);
        CHECKS.due("the oldest stay", desk.payment(4, 1), 3);
        // The oldest of several sorts is forgotten, not the latest.
        desk.bar(1);
        for (int i = 0; i < 6; i++) {
            desk.earn(i, 1);
            desk.pay(i, 1);
        }
        for (int i = 11; i >= 0; i--) {
            desk.undo();
        }
        CHECKS.due("BARRED stays", desk.now(8), 2);
        CHECKS.due("INCOME", desk.now(0), 60000);
        CHECKS.due("PAYMENTS", desk.now(5), 5);
        CHECKS.due("no more", desk.undo(), -1);
    }

    private static void undoneRoom() {
        InstalmentDesk desk = new InstalmentDesk();
        for (int i = 0; i < 40; i++) {
            desk.earn(1, 1);
            desk.pay(1, 1);
        }
        CHECKS.due("40 PAYMENTS", desk.pay(1, 1), -2);
        desk.undo();
        CHECKS.due("room again", desk.pay(1, 1), 39);
        desk.undo();
        desk.undo();
        CHECKS.due("room again", desk.earn(1, 1), 40);
        CHECKS.due("40 INCOMES", desk.earn(1, 1), -2);
    }
}
