/** Promises 1 to 5: a new object, feed, end, text, fault. */
public final class TextTest {
    private static final Checks CHECKS = new Checks();
    private static final String SET = "year 1 1 9;period 1 1;period 2 2;period 3 3;period 4 4;share 1 1;";

    public static void main(String[] args) {
        newObject();
        feedAndEnd();
        bytesOfTheTape();
        goodTexts();
        tokens();
        linesThatMustBe();
        numbers();
        numbersAhead();
        tooMany();
        tooLong();
        blanksAlone();
        faultLeavesAll();
        newTextForgets();
        CHECKS.close("TextTest");
    }

    private static void newObject() {
        InstalmentDesk desk = new InstalmentDesk();
        for (int what = 0; what <= 10; what++) {
            CHECKS.due("new: now(" + what + ")", desk.now(what), 0);
        }
        for (int period = 0; period < 4; period++) {
            for (int what = 0; what < 10; what++) {
                CHECKS.due("new: period(" + period + ", " + what + ")", desk.period(period, what), 0);
            }
        }
        CHECKS.due("new: tax", desk.tax(9999999), 0);
        CHECKS.due("new: rate", desk.rate(499), 0);
        CHECKS.due("new: fault", desk.fault(), 0);
        CHECKS.due("new: undo", desk.undo(), -1);
        CHECKS.due("new: pay", desk.pay(0, 70), 0);
        CHECKS.due("new: refund behind END 0", desk.refund(1, 1), -1);
        CHECKS.due("new: refund on END", desk.refund(0, 30), 40);
        CHECKS.due("new: earn", desk.earn(0, 10), 10);
        CHECKS.due("new: YEARLY by CUT 0", desk.period(3, 9), 3650);
    }

    private static void feedAndEnd() {
        InstalmentDesk desk = new InstalmentDesk();
        CHECKS.holds("end(0) of an empty tape", desk.end(0));
        CHECKS.holds("end(1) of an empty tape", !desk.end(1));
        for (int i = 1; i <= 42; i++) {
            CHECKS.due("feed " + i, desk.feed(-1, i, 0, Integer.MIN_VALUE, Integer.MAX_VALUE), 20 * i);
        }
        CHECKS.due("feed beyond 840", desk.feed(1, 2, 3, 4, 5), -1);
        CHECKS.due("tape", desk.now(10), 840);
        CHECKS.holds("end(841)", !desk.end(841));
        CHECKS.holds("end(-1)", !desk.end(-1));
        CHECKS.holds("end(least)", !desk.end(Integer.MIN_VALUE));
        CHECKS.due("tape as before", desk.now(10), 840);
        CHECKS.holds("end(840)", desk.end(840));
        CHECKS.holds("end(821)", desk.end(821));
        CHECKS.due("feed that would make 841", desk.feed(1, 2, 3, 4, 5), -1);
        CHECKS.due("tape after it", desk.now(10), 821);
        CHECKS.holds("end(820)", desk.end(820));
        CHECKS.due("feed that makes 840", desk.feed(1, 2, 3, 4, 5), 840);
        CHECKS.due("a text of such bytes", desk.text(), -1);
        CHECKS.due("tape after text()", desk.now(10), 0);
    }

    private static void bytesOfTheTape() {
        // 'y' 'e' 'a' 'r' from the highest byte to the lowest, and what end() cut off is fed anew
        InstalmentDesk desk = new InstalmentDesk();
        desk.feed(0x79656172, 0x20312032, 0x20333b3f, 0x3f3f3f3f, 0x3f3f3f3f);
        CHECKS.holds("end(11)", desk.end(11));
        desk.feed(0x0a202020, 0x20202020, 0x20202020, 0x20202020, 0x20202020);
        CHECKS.due("text of one LINE and blanks", desk.text(), -32);
        CHECKS.due("its FAULT", desk.fault(), 1);
    }

    private static void goodTexts() {
        good("", 0);
        good(SET, 6);
        good(Checks.YEAR, 15);
        good("\n year\n00001 1 \n\n 9 ; period 1 1;period 2 2;period 3 3;period 4 4;share 1 1;\n ", 6);
        good("year 99999 99999 499;period 0 0;period 1 1;period 498 363;period 499 364;share 0 100;", 6);
        good("year 0 0 3;period 0 0;period 1 1;period 2 2;period 3 3;share 100 0;upto 1 0;upto 99999 99;over 0;"
            + "rate 0 0;rate 499 99;income 0 1;income 364 99999;pay 0 1;pay 499 99999;", 15);
        good(SET + "pay 5 5;over 99;income 3 3;upto 7 7;rate 3 3;income 3 3;upto 8 0;pay 4 5;rate 4 0;", 15);
        InstalmentDesk desk = Checks.told("year 00012 00034 00056;period 1 1;period 2 2;period 3 3;period 4 4;share 1 1;");
        CHECKS.due("CREDIT with noughts ahead", desk.now(2), 34);
    }

    private static void tokens() {
        bad("year 1 1 9;period 1 1!;", 1, 21);
        bad("Year 1 1 9;", 1, 0);
        bad("year\t1 1 9;", 1, 4);
        bad("year 1\r1 9;", 1, 6);
        bad("year 000001 1 9;", 1, 5);
        bad("year 123456 1 9;", 1, 5);
        bad("year 1a 1 9;", 1, 5);
        bad("year1 1 9;", 1, 0);
        bad("year 1 1 9;period1 1;", 1, 11);
        bad("year -1 1 9;", 1, 5);
        bad("year 1 1 9period;", 1, 9);
        bad("year 1 1 \u00e99;", 1, 9);
        bad("year 1 1 \u00b39;", 1, 9);
        bad("year 1 1 9 ", 1, 11);
        bad(";", 1, 0);
        bad("7;", 1, 0);
        bad("yea 1 1 9;", 1, 0);
        bad("years 1 1 9;", 1, 0);
        bad("year 1 1;", 1, 8);
        bad("year 1 1 9 9;", 1, 11);
        bad("year 1 year 9;", 1, 7);
        bad("year;", 1, 4);
        bad("year 1 1 9;;", 1, 11);
        bad("hear 1 1 9;", 1, 0);
        bad("yeas 1 1 9;", 1, 0);
        int place = SET.length();
        bad(SET + "payz 1 1;", 1, place);
        bad(SET + "paya 1 1;", 1, place);
        bad(SET + "pay0 1 1;", 1, place);
        bad(SET + "pay9 1 1;", 1, place);
        bad(SET + "pay` 1 1;", 1, place + 3);
        bad(SET + "pay{ 1 1;", 1, place + 3);
        bad(SET + "pay/ 1 1;", 1, place + 3);
        bad(SET + "pay: 1 1;", 1, place + 3);
        good(SET + "pay 09 90;", 7);
    }

    private static void linesThatMustBe() {
        String[] lines = SET.split("(?<=;)");
        String text = "";
        for (String line : lines) {
            bad(text + "pay 1 1;", 1, text.length());
            bad(text + "over 1;", 1, text.length());
            if (!text.isEmpty()) {
                bad(text, 1, text.length());
                bad(text + " \n", 1, text.length() + 2);
                bad(text + "year 1 1 9;", 1, text.length());
            }
            text += line;
            bad(text.substring(0, text.length() - 1), 1, text.length() - 1);
        }
        bad("year 1 1 9;share 1 1;", 1, 11);
        bad("year 1 1 9;period 1 1;period 2 2;period 3 3;share 1 1;", 1, 44);
        bad("year 1 1 9;period 1 1;period 2 2;period 3 3;period 4 4;period 5 5;", 1, 55);
        bad(SET + "period 5 5;", 1, SET.length());
        bad(SET + "share 1 1;", 1, SET.length());
        bad(SET + "year 1 1 9;", 1, SET.length());
        bad(SET + "pay 1 1", 1, SET.length() + 7);
        bad(SET + "pay 1;", 1, SET.length() + 5);
        bad(SET + "over 1 1;", 1, SET.length() + 7);
        bad(SET + "upto 1;", 1, SET.length() + 6);
        bad(SET + "paid 1 1;", 1, SET.length());
    }

    private static void numbers() {
        bad("year 1 1 500;", 2, 9);
        bad("year 1 1 99999", 2, 9);
        bad("year 1 1 9;period 10 1;", 2, 18);
        bad("year 1 1 499;period 500 1;", 2, 20);
        bad("year 1 1 9;period 1 365;", 2, 20);
        String set = SET.substring(0, 55);
        bad(set + "share 101 0;", 2, 61);
        bad(set + "share 0 101;", 2, 63);
        line("upto 0 1;", 5);
        line("upto 1 100;", 7);
        line("over 100;", 5);
        line("rate 500 1;", 5);
        line("rate 1 100;", 7);
        line("income 365 1;", 7);
        line("income 1 0;", 9);
        line("pay 500 1;", 4);
        line("pay 1 0;", 6);
    }

    private static void numbersAhead() {
        bad("year 1 1 9;period 5 5;period 5 6;", 2, 29);
        bad("year 1 1 9;period 5 5;period 4 6;", 2, 29);
        bad("year 1 1 9;period 5 5;period 6 5;", 2, 31);
        line("upto 5 1;upto 5 1;", 14);
        line("upto 5 1;over 3;upto 4 1;", 21);
        line("rate 5 1;rate 5 1;", 14);
        line("rate 0 1;pay 1 1;rate 0 1;", 22);
        good(SET + "rate 0 1;rate 1 1;", 8);
        good(SET + "income 9 1;income 3 1;income 3 1;pay 9 1;pay 3 1;pay 3 1;", 12);
    }

    private static void tooMany() {
        many("upto ", " 1;", 4, 1);
        many("rate ", " 1;", 6, 0);
        many("income ", " 1;", 20, 0);
        many("pay ", " 1;", 20, 0);
        bad(SET + "over 1;over 1;", 3, SET.length() + 7);
        bad(SET + "over 0;pay 1 1;over 100;", 3, SET.length() + 15);
    }

    private static void many(String word, String rest, int most, int first) {
        StringBuilder text = new StringBuilder(SET);
        for (int i = 0; i < most; i++) {
            text.append(word).append(first + i).append(rest);
        }
        good(text.toString(), 6 + most);
        int place = text.length();
        bad(text + word + (first + most) + rest, 3, place);
        bad(text + word, 3, place);
        bad(text + word + "99999" + rest, 3, place);
    }

    private static void tooLong() {
        good(Checks.padded(SET, 800), 6);
        bad(Checks.padded(SET, 801), 1, 800);
        bad(Checks.padded(SET, 840), 1, 800);
        bad(Checks.padded(Checks.padded(SET, 800) + "!", 840), 1, 800);
        bad(Checks.padded(Checks.padded(SET, 799) + "!", 840), 1, 799);
        // TOKENS that begin ahead of 800 are read whole
        bad(Checks.padded(SET, 797) + "pay 1 1;", 1, 800);
        bad(Checks.padded(SET, 798) + "over", 1, 800);
        bad(Checks.padded(SET, 798) + "paid 1 1;", 1, 798);
        bad(Checks.padded(SET + "pay", 798) + "00499 1;", 1, 800);
        bad(Checks.padded(SET + "pay", 798) + "00500 1;", 2, 798);
        bad(Checks.padded(SET + "pay", 799) + "000001;", 1, 799);
        bad(Checks.padded(SET + "over 1;", 798) + "over 1;", 3, 798);
        bad(Checks.padded(SET + "over 1;", 800) + "over 1;", 1, 800);
        bad(Checks.padded("year 1 1 9;", 800), 1, 800);
        bad(Checks.padded("year 1 1 9;", 820), 1, 800);
        good(Checks.padded(SET, 792) + "pay 1 1;", 7);
    }

    private static void blanksAlone() {
        good(" ", 0);
        good("\n", 0);
        good(" \n", 0);
        good(Checks.padded("", 800), 0);
        good("\n".repeat(800), 0);
        bad(Checks.padded("", 801), 1, 800);
        bad(Checks.padded("", 840), 1, 800);
        bad(Checks.padded("", 820) + "year", 1, 800);
        bad(Checks.padded("", 798) + "year", 1, 800);
        bad(" ;", 1, 1);
        bad("\t", 1, 0);
        bad(" \r", 1, 1);
        bad("\0", 1, 0);
        bad(" \n7", 1, 2);
        bad(" year", 1, 5);
        bad(" year ", 1, 6);
        InstalmentDesk desk = Checks.told(Checks.YEAR);
        desk.bar(1);
        CHECKS.due("blanks behind 800 bytes", Checks.tell(desk, Checks.padded("", 801)), -801);
        CHECKS.due("its FAULT", desk.fault(), 1);
        CHECKS.due("BARRED stays", desk.now(8), 2);
        CHECKS.due("PAYMENTS stay", desk.now(5), 2);
        CHECKS.due("blanks alone", Checks.tell(desk, " \n "), 0);
        CHECKS.due("no FAULT any more", desk.fault(), 0);
        asAtFirst("blanks", desk);
    }

    private static void faultLeavesAll() {
        InstalmentDesk desk = Checks.told(Checks.YEAR);
        desk.bar(1);
        desk.pay(399, 99999);
        desk.refund(399, 7);
        int costs = desk.now(4);
        CHECKS.due("a FAULT", Checks.tell(desk, "year 5 5 5;period 1 1;pay"), -23);
        CHECKS.due("fault()", desk.fault(), 1);
        CHECKS.due("tape", desk.now(10), 0);
        CHECKS.due("COSTS", desk.now(4), costs);
        CHECKS.due("BARRED", desk.now(8), 2);
        CHECKS.due("TAKEN BACK", desk.now(6), 7);
        CHECKS.due("to undo", desk.now(9), 3);
        CHECKS.due("PAYMENTS", desk.now(5), 3);
        CHECKS.due("DUE", desk.period(0, 7), 100);
        CHECKS.due("fault() again", desk.fault(), 1);
        CHECKS.due("undo", desk.undo(), 2);
    }

    private static void newTextForgets() {
        InstalmentDesk desk = Checks.told(Checks.YEAR);
        desk.bar(1);
        desk.pay(399, 99999);
        desk.refund(399, 7);
        CHECKS.due("a FAULT ahead", Checks.tell(desk, "?"), -1);
        CHECKS.due("a new TEXT", Checks.tell(desk, SET), 6);
        CHECKS.due("fault()", desk.fault(), 0);
        CHECKS.due("BARRED", desk.now(8), 0);
        CHECKS.due("TAKEN BACK", desk.now(6), 0);
        CHECKS.due("to undo", desk.now(9), 0);
        CHECKS.due("undo", desk.undo(), -1);
        CHECKS.due("PAYMENTS", desk.now(5), 0);
        CHECKS.due("INCOME", desk.now(0), 0);
        CHECKS.due("TAX", desk.tax(99999), 0);
        CHECKS.due("rate", desk.rate(499), 0);
        desk.bar(0);
        CHECKS.due("an empty TEXT", desk.text(), 0);
        asAtFirst("empty", desk);
    }

    private static void asAtFirst(String name, InstalmentDesk desk) {
        for (int what = 0; what <= 10; what++) {
            CHECKS.due(name + ": now(" + what + ")", desk.now(what), 0);
        }
        for (int period = 0; period < 4; period++) {
            for (int what = 0; what < 10; what++) {
                CHECKS.due(name + ": period(" + period + ", " + what + ")", desk.period(period, what), 0);
            }
        }
        CHECKS.due(name + ": TAX", desk.tax(9999999), 0);
        CHECKS.due(name + ": rate", desk.rate(499), 0);
        CHECKS.due(name + ": undo", desk.undo(), -1);
        CHECKS.due(name + ": pay", desk.pay(0, 9), 0);
        CHECKS.due(name + ": END", desk.refund(1, 1), -1);
        CHECKS.due(name + ": on END", desk.refund(0, 1), 8);
    }

    private static void line(String behindSet, int place) {
        bad(SET + behindSet, 2, SET.length() + place);
    }

    private static void good(String text, int lines) {
        InstalmentDesk desk = new InstalmentDesk();
        CHECKS.due("text " + text, Checks.tell(desk, text), lines);
        CHECKS.due("fault of " + text, desk.fault(), 0);
    }

    private static void bad(String text, int kind, int place) {
        InstalmentDesk desk = new InstalmentDesk();
        CHECKS.due("text " + text, Checks.tell(desk, text), -1 - place);
        CHECKS.due("fault of " + text, desk.fault(), kind);
    }
}
