/** The boundary cases of texts and of promises 1 to 5, a method for each sentence that names one. */
public final class EdgesOfTextTest {
    private static final Checks CHECKS = new Checks();
    private static final String MUST = "year 1 1 9;period 1 1;period 2 2;period 3 3;period 4 4;share 1 1;";
    private static final String FROM_DAY_0 = ";period 0 0;period 1 1;period 2 2;period 3 3;share 100 100;";
    private static final int BLANKS = 0x20202020;

    public static void main(String[] args) {
        blanks();
        words();
        numbers();
        goesOn();
        atMost800();
        theFirstLine();
        fourPeriods();
        dueRange();
        cutRange();
        share();
        others();
        upto();
        over();
        rate();
        income();
        pay();
        firstAlongTheText();
        leastOfOneToken();
        noTokenOrCannotCome();
        placeOfTheEnd();
        eightHundred();
        notAsTold();
        oneMoreOfASort();
        newText();
        newTextHasItsOwnRoom();
        uses();
        newObject();
        feed();
        feedHighestFirst();
        feedFull();
        end();
        endNotSoMany();
        text();
        textEmptiesTheTape();
        textEmpty();
        textFaultPlace();
        textAllStays();
        fault();
        CHECKS.close("EdgesOfTextTest");
    }

    private static void blanks() {
        CHECKS.sentence("TOKENS of a text, with blanks (32, 10) between them or not");
        for (int sign = 0; sign < 256; sign++) {
            String text = "year" + (char) sign + MUST.substring(5);
            if (sign == 32 || sign == 10) {
                good(6, text);
            } else {
                bad(1, isLetterOrDigit(sign) ? "^" + text : text.substring(0, 4) + "^" + text.substring(4));
            }
        }
        good(6, MUST.replace(";", " \n ;\n \n"));
        good(6, "\n\n" + MUST + " ");
        good(8, MUST + "over 1;rate 1 1;");
    }

    private static void words() {
        CHECKS.sentence("WORDS: small letters");
        for (int sign = 0; sign < 256; sign++) {
            String text = (char) sign + MUST.substring(1);
            if (sign == 'y') {
                good(6, text);
            } else {
                bad(1, sign == 32 || sign == 10 ? (char) sign + "^" + text.substring(1) : "^" + text);
            }
        }
        bad(1, "^YEAR 1 1 9;");
        bad(1, "year 1 1 9;^perioD 1 1;");
        bad(1, "^yea 1 1 9;");
        bad(1, "^years 1 1 9;");
    }

    private static void numbers() {
        CHECKS.sentence("NUMBERS: 1 to 5 digits");
        for (String number : new String[] {"7", "12", "123", "1234", "12345", "00000", "00009", "90000", "99999"}) {
            good(6, "year " + number + MUST.substring(6));
        }
        for (String number : new String[] {"000000", "000001", "100000", "123456", "4294967296", "4294967301",
            "18446744073709551617", "0".repeat(40)}) {
            bad(1, "year ^" + number + MUST.substring(6));
            bad(1, MUST + "pay 1 ^" + number + ";");
        }
        for (int sign = '/'; sign <= ':'; sign++) {
            if (sign >= '0' && sign <= '9') {
                good(6, "year " + (char) sign + MUST.substring(6));
            } else {
                bad(1, "year ^" + (char) sign + MUST.substring(6));
            }
        }
        bad(1, "year ^-1 1 9;");
        bad(1, "year ^+1 1 9;");
        bad(1, "year 1^.0 1 9;");
    }

    private static void goesOn() {
        CHECKS.sentence("A WORD, NUMBER goes on as long as small letters and digits do; what is not as told is no TOKEN.");
        bad(1, "^year1 1 9;");
        bad(1, "^1year 1 1 9;");
        bad(1, "^ye4r 1 1 9;");
        bad(1, "year ^1a 1 9;");
        bad(1, "year ^a1 1 9;");
        bad(1, "year 1 1 ^9period 1 1;");
        bad(1, "year 1 1 9;^period1 1;");
        bad(1, "year 1 1 9^:");
        bad(1, "year 1 1 9;^_");
        bad(1, MUST + "^payz 1 1;");
        bad(1, MUST + "^pay0 1 1;");
        bad(1, MUST + "^pay9 1 1;");
        bad(1, MUST + "pay^` 1 1;");
        bad(1, MUST + "pay^{ 1 1;");
        // Where the sign ; must come, what is no TOKEN does not stand for it.
        bad(1, MUST + "pay 1 1 ^9x");
        bad(1, MUST + "pay 1 1 ^x9 pay 1 1;");
        bad(1, MUST + "pay 1 1 ^000000 pay 1 1;");
    }

    private static void atMost800() {
        CHECKS.sentence("A TEXT has at most 800 bytes: { LINE ; }.");
        good(6, Checks.padded(MUST, 799));
        good(6, Checks.padded(MUST, 800));
        good(7, Checks.padded(MUST, 791) + "pay 1 99;");
        bad(1, Checks.padded(MUST, 800) + "^ ");
        bad(1, MUST + "pay 1 1^");
        bad(1, MUST + "^;");
        bad(1, MUST + "pay 1 1;^;");
    }

    private static void theFirstLine() {
        CHECKS.sentence("The first LINE: 'year' PRIOR CREDIT END (PRIOR, CREDIT 0 to 99999; END: a DAY 0 to 499).");
        good(6, "year 0 0 3" + FROM_DAY_0);
        good(6, "year 99999 99999 499" + FROM_DAY_0);
        bad(1, "year ^100000 0 3" + FROM_DAY_0);
        bad(1, "year 0 ^100000 3" + FROM_DAY_0);
        bad(2, "year 0 0 ^500" + FROM_DAY_0);
        bad(2, "year 0 0 ^99999" + FROM_DAY_0);
        bad(1, "year 0 0^;");
        bad(1, "year 0 0 3 ^3;");
        for (String line : new String[] {"period 1 1;", "share 1 1;", "upto 1 1;", "over 1;", "rate 1 1;", "income 1 1;",
            "pay 1 1;"}) {
            bad(1, "^" + line + MUST);
        }
        InstalmentDesk desk = Checks.told("year 99999 0 3" + FROM_DAY_0 + "pay 3 1;pay 4 2;");
        CHECKS.due("PRIOR", desk.period(3, 1), 99999);
        CHECKS.due("CREDIT 0, END 3", desk.now(2), 1);
        desk = Checks.told("year 0 99999 499" + FROM_DAY_0 + "pay 499 1;");
        CHECKS.due("PRIOR 0", desk.period(3, 1), 0);
        CHECKS.due("CREDIT 99999, END 499", desk.now(2), 100000);
    }

    private static void fourPeriods() {
        CHECKS.sentence("Then four LINES 'period' DUE CUT");
        String text = "year 1 1 9;";
        for (int p = 1; p <= 4; p++) {
            for (String line : new String[] {"year 1 1 9;", "share 1 1;", "upto 1 1;", "over 1;", "rate 1 1;",
                "income 1 1;", "pay 1 1;", ";", "9", "!"}) {
                bad(1, text + "^" + line);
            }
            text += "period " + p + " " + p + ";";
        }
        bad(1, text + "^period 5 5;share 1 1;");
        bad(1, MUST + "^period 5 5;");
        bad(1, "year 1 1 9;period 1^;");
        bad(1, "year 1 1 9;period^;");
        bad(1, "year 1 1 9;period 1 1 ^1;");
        good(6, text + "share 1 1;");
    }

    private static void dueRange() {
        CHECKS.sentence("DUE: a DAY 0 to 499, later than the one ahead, no later than END");
        good(6, "year 1 1 499;period 0 1;period 1 2;period 498 3;period 499 4;share 1 1;");
        bad(2, "year 1 1 499;period ^500 1;");
        bad(2, "year 1 1 9;period 5 1;period ^5 2;");
        bad(2, "year 1 1 9;period 5 1;period ^4 2;");
        bad(2, "year 1 1 9;period 5 1;period 6 2;period ^6 3;");
        bad(2, "year 1 1 9;period 5 1;period 6 2;period 7 3;period ^7 4;");
        bad(2, "year 1 1 9;period 5 1;period 6 2;period 7 3;period ^6 4;");
        good(6, "year 1 1 9;period 0 1;period 1 2;period 2 3;period 9 4;share 1 1;");
        bad(2, "year 1 1 9;period 0 1;period 1 2;period 2 3;period ^10 4;share 1 1;");
        bad(2, "year 1 1 9;period ^10 1;");
        bad(2, "year 1 1 0;period 0 1;period ^1 2;");
        bad(2, "year 1 1 2;period 0 1;period 1 2;period 2 3;period ^3 4;");
        InstalmentDesk desk = Checks.told("year 1 1 499;period 0 1;period 1 2;period 498 3;period 499 4;share 1 1;");
        CHECKS.due("DUE 0", desk.period(0, 7), 0);
        CHECKS.due("DUE 499", desk.period(3, 7), 499);
    }

    private static void cutRange() {
        CHECKS.sentence("CUT 0 to 364, later than the one ahead");
        good(6, "year 1 1 9;period 1 0;period 2 1;period 3 363;period 4 364;share 1 1;");
        bad(2, "year 1 1 9;period 1 ^365;");
        bad(2, "year 1 1 9;period 1 0;period 2 ^0;");
        bad(2, "year 1 1 9;period 1 5;period 2 ^5;");
        bad(2, "year 1 1 9;period 1 5;period 2 ^4;");
        bad(2, "year 1 1 9;period 1 1;period 2 364;period 3 ^365;");
        bad(2, "year 1 1 9;period 1 1;period 2 2;period 3 3;period 4 ^3;");
        // CUT is not held against END or DUE
        good(6, "year 1 1 9;period 1 361;period 2 362;period 3 363;period 4 364;share 1 1;");
        InstalmentDesk desk = Checks.told("year 1 1 9;period 1 0;period 2 1;period 3 363;period 4 364;share 1 1;");
        CHECKS.due("CUT 0", desk.period(0, 8), 0);
        CHECKS.due("CUT 364", desk.period(3, 8), 364);
    }

    private static void share() {
        CHECKS.sentence("Then 'share' A B (0 to 100 each).");
        String text = MUST.substring(0, MUST.length() - 10);
        good(6, text + "share 0 0;");
        good(6, text + "share 100 100;");
        bad(2, text + "share ^101 0;");
        bad(2, text + "share 0 ^101;");
        bad(1, text + "share 0^;");
        bad(1, text + "share 0 0 ^0;");
        for (String line : new String[] {"year 1 1 9;", "upto 1 1;", "over 1;", "rate 1 1;", "income 1 1;", "pay 1 1;"}) {
            bad(1, text + "^" + line);
        }
        bad(1, MUST + "^share 1 1;");
    }

    private static void others() {
        CHECKS.sentence("The others:");
        bad(1, MUST + "^year 1 1 9;");
        bad(1, MUST + "^period 5 5;");
        bad(1, MUST + "^share 1 1;");
        bad(1, MUST + "^due 1 1;");
        String[] lines = {"upto 1 1;", "over 1;", "rate 1 1;", "income 1 1;", "pay 1 1;"};
        for (String first : lines) {
            for (String second : lines) {
                if (!first.equals(second)) {
                    good(8, MUST + first + second);
                }
            }
        }
    }

    private static void upto() {
        CHECKS.sentence("'upto' LIMIT RATE (LIMIT 1 to 99999, above the one ahead; RATE 0 to 99; 4 at most)");
        good(8, MUST + "upto 1 0;upto 99999 99;");
        bad(2, MUST + "upto ^0 0;");
        bad(1, MUST + "upto ^100000 0;");
        bad(2, MUST + "upto 1 ^100;");
        bad(2, MUST + "upto 5 1;upto ^5 1;");
        bad(2, MUST + "upto 5 1;pay 1 1;upto ^4 1;");
        good(8, MUST + "upto 5 1;upto 6 1;");
        bad(2, MUST + "upto 99999 1;upto ^99999 1;");
        good(10, MUST + "upto 1 1;upto 2 1;upto 3 1;upto 4 1;");
        bad(3, MUST + "upto 1 1;upto 2 1;upto 3 1;upto 4 1;^upto 5 1;");
        bad(1, MUST + "upto 1^;");
    }

    private static void over() {
        CHECKS.sentence("'over' RATE (once; 0 to 99)");
        good(7, MUST + "over 0;");
        good(7, MUST + "over 99;");
        bad(2, MUST + "over ^100;");
        bad(3, MUST + "over 0;^over 0;");
        bad(3, MUST + "over 99;pay 1 1;^over 99;");
        bad(1, MUST + "over^;");
        bad(1, MUST + "over 1 ^1;");
    }

    private static void rate() {
        CHECKS.sentence("'rate' FROM R (a DAY 0 to 499, later than the one ahead; 0 to 99; 6 at most)");
        good(8, MUST + "rate 0 0;rate 499 99;");
        bad(2, MUST + "rate ^500 0;");
        bad(2, MUST + "rate 0 ^100;");
        bad(2, MUST + "rate 0 1;rate ^0 1;");
        bad(2, MUST + "rate 7 1;rate ^7 1;");
        bad(2, MUST + "rate 7 1;over 3;rate ^6 1;");
        good(8, MUST + "rate 7 1;rate 8 1;");
        good(12, MUST + "rate 0 1;rate 1 1;rate 2 1;rate 3 1;rate 4 1;rate 5 1;");
        bad(3, MUST + "rate 0 1;rate 1 1;rate 2 1;rate 3 1;rate 4 1;rate 5 1;^rate 6 1;");
        bad(1, MUST + "rate 1^;");
        // FROM is not held against END
        good(7, MUST + "rate 400 1;");
    }

    private static void income() {
        CHECKS.sentence("'income' DAY AMOUNT (0 to 364; 1 to 99999; 20 at most)");
        good(8, MUST + "income 0 1;income 364 99999;");
        good(8, MUST + "income 364 1;income 0 1;");
        bad(2, MUST + "income ^365 1;");
        bad(2, MUST + "income 0 ^0;");
        bad(1, MUST + "income 0 ^100000;");
        good(26, MUST + "income 0 1;".repeat(20));
        bad(3, MUST + "income 0 1;".repeat(20) + "^income 0 1;");
        bad(1, MUST + "income 0^;");
        CHECKS.due("20 of 99999", Checks.told(MUST + "income 364 99999;".repeat(20)).now(0), 1999980);
    }

    private static void pay() {
        CHECKS.sentence("'pay' DAY AMOUNT (0 to 499; 1 to 99999; 20 at most)");
        good(8, MUST + "pay 0 1;pay 499 99999;");
        good(8, MUST + "pay 499 1;pay 0 1;");
        bad(2, MUST + "pay ^500 1;");
        bad(2, MUST + "pay 0 ^0;");
        bad(1, MUST + "pay 0 ^100000;");
        good(26, MUST + "pay 0 1;".repeat(20));
        bad(3, MUST + "pay 0 1;".repeat(20) + "^pay 0 1;");
        bad(1, MUST + "pay 0^;");
        CHECKS.due("20 told", Checks.told(MUST + "pay 0 1;".repeat(20)).now(5), 20);
    }

    private static void firstAlongTheText() {
        CHECKS.sentence("FAULTS, the first along the text");
        bad(2, "year 1 1 ^500;!");
        bad(1, "year 1 1 9^!;period 500 1;");
        bad(2, MUST + "pay ^500 0;pay 1 1 1");
        bad(2, MUST + "pay 1 ^0;over 1;over 1;");
        bad(3, MUST + "over 1;^over 100;?");
        bad(1, MUST + "pay 1 1 ^1;pay 500 1;");
        bad(2, MUST + "pay ^500");
        bad(3, MUST + "over 1;^over");
    }

    private static void leastOfOneToken() {
        CHECKS.sentence("of one TOKEN the least");
        bad(1, MUST + "^year 1 1 9;");
        bad(1, MUST + "^period 5 5;");
        bad(1, MUST + "^share 1 1;");
        bad(1, MUST + "pay ^999999 1;");
        bad(1, MUST + "pay 1 1 ^500;");
        bad(1, MUST + "over 1;pay ^over 1;");
        bad(1, MUST + "over 1;pay 1 1 ^over 1;");
    }

    private static void noTokenOrCannotCome() {
        CHECKS.sentence("1 no TOKEN, or one that can't come (at it;");
        for (int sign = 0; sign < 256; sign++) {
            if (!isLetterOrDigit(sign) && sign != 32 && sign != 10 && sign != ';') {
                bad(1, MUST + "pay 1^" + (char) sign + "1;");
                bad(1, MUST + "^" + (char) sign);
            }
        }
        bad(1, "year ^year 1 9;");
        bad(1, "^7;");
        bad(1, "^;");
        bad(1, "year^;");
        bad(1, "^" + "x".repeat(840));
        bad(1, "^" + "7".repeat(840));
    }

    private static void placeOfTheEnd() {
        CHECKS.sentence("the end: how many bytes there are, also if LINES that must be there are not;");
        String[] lines = MUST.split("(?<=;)");
        String text = "";
        for (int i = 0; i < lines.length - 1; i++) {
            text += lines[i];
            bad(1, text + "^");
            bad(1, text + " \n ^");
        }
        for (int bytes = 1; bytes < MUST.length(); bytes++) {
            // A number that is cut is still as told, but ahead of a word's end there is another word.
            String cut = MUST.substring(0, bytes);
            String last = cut.substring(cut.lastIndexOf(';') + 1);
            boolean wordIsCut = last.matches("[a-z]+") && !last.matches("year|period|share");
            bad(1, wordIsCut ? cut.substring(0, bytes - last.length()) + "^" + last : cut + "^");
        }
        for (String rest : new String[] {"pay", "pay 1", "pay 1 1", "pay 1 1 ", "pay 1 \n", "over", "over 1"}) {
            bad(1, MUST + rest + "^");
        }
    }

    private static void eightHundred() {
        CHECKS.sentence("800, if there are more and no FAULT is ahead: TOKENS that begin ahead of it are read whole");
        bad(1, Checks.padded(MUST, 800) + "^ ");
        bad(1, Checks.padded(MUST, 800) + "^" + " ".repeat(40));
        bad(1, Checks.padded(MUST, 800) + "^pay 1 1;");
        bad(1, Checks.padded(MUST, 800) + "^!");
        bad(1, Checks.padded(MUST, 793) + "pay 1 1^;");
        bad(1, Checks.padded(MUST, 792) + "pay 1 1;^;");
        bad(1, Checks.padded("year 1 1 9;", 800) + "^" + " ".repeat(20));
        bad(1, Checks.padded("", 800) + "^ ");
        bad(1, Checks.padded(MUST, 799) + "^! ");
        bad(1, Checks.padded(MUST, 799) + "^;" + " ".repeat(20));
        bad(1, Checks.padded(MUST, 799) + "p^ay 1 1;");
        bad(1, Checks.padded(MUST, 799) + "^pby 1 1;");
        bad(1, Checks.padded(MUST, 799) + "^pay1 1 1;");
        bad(1, Checks.padded(MUST + "pay", 799) + "4^99 1;");
        bad(2, Checks.padded(MUST + "pay", 799) + "^500 1;");
        bad(1, Checks.padded(MUST + "pay", 799) + "^000000 1;");
        bad(1, Checks.padded(MUST + "pay", 799) + "^0a 1;");
        bad(2, Checks.padded(MUST + "pay 1", 799) + "^0;");
        bad(3, Checks.padded(MUST + "over 1;", 799) + "^over 1;");
        bad(1, Checks.padded(MUST + "over 1;", 800) + "^over 1;");
        bad(2, Checks.padded(MUST + "pay ^500 1;", 841));
        bad(1, Checks.padded(MUST, 796) + "over^" + "\n".repeat(40));
    }

    private static void notAsTold() {
        CHECKS.sentence("2 a NUMBER that is not as told (at it);");
        bad(2, MUST + "pay    ^500    1;");
        bad(2, MUST + "pay 1\n^00000;");
        bad(2, MUST + "pay ^00500 1;");
        good(7, MUST + "pay 00499 00001;");
    }

    private static void oneMoreOfASort() {
        CHECKS.sentence("3 'over' a second time, one more of a sort than told (at its WORD).");
        bad(3, MUST + "over 1;^over");
        bad(3, MUST + "over 1; \n^over 100;");
        bad(3, MUST + "upto 1 1;upto 2 1;upto 3 1;upto 4 1; ^upto 0 0;");
        bad(3, MUST + "rate 0 1;rate 1 1;rate 2 1;rate 3 1;rate 4 1;rate 5 1; ^rate 0 0;");
        bad(3, MUST + "income 0 1;".repeat(20) + "pay 1 1; ^income;");
        bad(3, MUST + "pay 0 1;".repeat(20) + "income 1 1; ^pay!");
        good(26 + 20, MUST + "income 1 1;".repeat(20) + "pay 1 1;".repeat(20));
    }

    private static void newText() {
        CHECKS.sentence("A new TEXT: no rule is BARRED, nothing TAKEN BACK, nothing can be undone.");
        InstalmentDesk desk = Checks.told(MUST + "pay 1 50;");
        desk.bar(0);
        desk.bar(2);
        desk.refund(2, 3);
        CHECKS.due("BARRED ahead of it", desk.now(8), 5);
        CHECKS.due("TAKEN BACK ahead of it", desk.now(6), 3);
        CHECKS.due("to undo ahead of it", desk.now(9), 3);
        CHECKS.due("the same TEXT anew", Checks.tell(desk, MUST + "pay 1 50;"), 7);
        CHECKS.due("BARRED", desk.now(8), 0);
        CHECKS.due("TAKEN BACK", desk.now(6), 0);
        CHECKS.due("to undo", desk.now(9), 0);
        CHECKS.due("undo", desk.undo(), -1);
        CHECKS.due("PAID", desk.now(2), 51);
    }

    private static void newTextHasItsOwnRoom() {
        CHECKS.sentence("4 at most) | 'over' RATE (once; 0 to 99)");
        String full = MUST + "upto 1 1;upto 2 1;upto 3 1;upto 4 1;over 1;rate 0 1;rate 1 1;rate 2 1;rate 3 1;rate 4 1;"
            + "rate 5 1;" + "income 1 1;".repeat(20) + "pay 1 1;".repeat(20);
        InstalmentDesk desk = new InstalmentDesk();
        CHECKS.due("the first", Checks.tell(desk, full), 57);
        CHECKS.due("the same anew", Checks.tell(desk, full), 57);
        CHECKS.due("with a FAULT at its end", Checks.tell(desk, full + "over 1;"), -1 - full.length());
        CHECKS.due("its FAULT", desk.fault(), 3);
        CHECKS.due("the same behind it", Checks.tell(desk, full), 57);
        CHECKS.due("PAYMENTS", desk.now(5), 20);
        CHECKS.due("INCOME", desk.now(0), 20);
    }

    private static void uses() {
        CHECKS.sentence("An object is used for at most 512 calls after it has been made");
        InstalmentDesk desk = new InstalmentDesk();
        int calls = 0;
        while (calls < 508) {
            desk.pay(0, 1);
            desk.undo();
            calls += 2;
        }
        CHECKS.due("call 509", desk.pay(0, 7), 0);
        CHECKS.due("call 510", desk.bar(2), 4);
        CHECKS.due("call 511", desk.undo(), 1);
        CHECKS.due("call 512", desk.now(2), 7);
    }

    private static void newObject() {
        CHECKS.sentence("Nothing told: PRIOR, CREDIT 0, END 0, all DUE on DAY 0, CUT 0, shares 0; an empty tape.");
        InstalmentDesk desk = new InstalmentDesk();
        for (int what = 0; what <= 10; what++) {
            CHECKS.due("now(" + what + ")", desk.now(what), 0);
        }
        for (int p = 0; p < 4; p++) {
            CHECKS.due("PRIOR or shares, of " + p, desk.period(p, 1), 0);
            CHECKS.due("DUE " + p, desk.period(p, 7), 0);
            CHECKS.due("CUT " + p, desk.period(p, 8), 0);
        }
        CHECKS.due("earn on CUT", desk.earn(0, 1), 1);
        CHECKS.due("earn behind CUT", desk.earn(1, 1), 2);
        CHECKS.due("YEARLY by CUT 0", desk.period(0, 9), 365);
        CHECKS.due("pay on END", desk.pay(0, 10), 0);
        CHECKS.due("pay behind END", desk.pay(1, 10), 1);
        CHECKS.due("PAID up to END 0", desk.now(2), 10);
        CHECKS.due("refund behind END", desk.refund(1, 1), -1);
        CHECKS.due("latest", desk.latest(1), 0);
        CHECKS.holds("an empty tape", desk.end(0) && !desk.end(1));
    }

    private static void feed() {
        CHECKS.sentence("Twenty bytes come behind the tape, of each number the highest first: how many it has;");
        InstalmentDesk desk = new InstalmentDesk();
        CHECKS.due("the first", desk.feed(0, 0, 0, 0, 0), 20);
        CHECKS.due("the second", desk.feed(-1, -1, -1, -1, -1), 40);
        desk.end(1);
        CHECKS.due("behind one byte", desk.feed(0, 0, 0, 0, 0), 21);
        CHECKS.due("tape", desk.now(10), 21);
    }

    private static void feedHighestFirst() {
        CHECKS.sentence("of each number the highest first");
        // Each byte of twenty in its turn is the one that is no TOKEN.
        for (int wrong = 0; wrong < 20; wrong++) {
            int[] numbers = new int[5];
            for (int i = 0; i < 20; i++) {
                numbers[i / 4] |= (i == wrong ? 0xff : 32) << (24 - i % 4 * 8);
            }
            InstalmentDesk desk = new InstalmentDesk();
            desk.feed(numbers[0], numbers[1], numbers[2], numbers[3], numbers[4]);
            CHECKS.due("byte " + wrong, desk.text(), -1 - wrong);
        }
    }

    private static void feedFull() {
        CHECKS.sentence("NONE, and none come, if it would have more than 840.");
        InstalmentDesk desk = new InstalmentDesk();
        for (int i = 1; i <= 42; i++) {
            CHECKS.due("feed", desk.feed(BLANKS, BLANKS, BLANKS, BLANKS, BLANKS), 20 * i);
        }
        CHECKS.due("860", desk.feed(0, 0, 0, 0, 0), -1);
        CHECKS.due("none came", desk.now(10), 840);
        for (int bytes = 839; bytes > 820; bytes--) {
            desk.end(bytes);
            CHECKS.due("behind " + bytes, desk.feed(0, 0, 0, 0, 0), -1);
            CHECKS.due("none came", desk.now(10), bytes);
        }
        desk.end(820);
        CHECKS.due("behind 820", desk.feed(BLANKS, BLANKS, BLANKS, BLANKS, BLANKS), 840);
        CHECKS.due("no other byte came", desk.text(), -801);
    }

    private static void end() {
        CHECKS.sentence("The tape has its first n bytes alone: true;");
        InstalmentDesk desk = new InstalmentDesk();
        CHECKS.holds("0 of 0", desk.end(0));
        desk.feed(0x20202021, BLANKS, BLANKS, BLANKS, BLANKS);
        CHECKS.holds("all of it", desk.end(20));
        CHECKS.due("bytes", desk.now(10), 20);
        CHECKS.holds("but one", desk.end(19));
        CHECKS.due("bytes", desk.now(10), 19);
        CHECKS.holds("but what is no TOKEN", desk.end(3));
        CHECKS.due("text of blanks", desk.text(), 0);
        desk.feed(0x20202021, BLANKS, BLANKS, BLANKS, BLANKS);
        CHECKS.holds("with what is no TOKEN", desk.end(4));
        CHECKS.due("text", desk.text(), -4);
        desk.feed(0x21212121, BLANKS, BLANKS, BLANKS, BLANKS);
        CHECKS.holds("none of it", desk.end(0));
        CHECKS.due("bytes", desk.now(10), 0);
        CHECKS.due("text", desk.text(), 0);
    }

    private static void endNotSoMany() {
        CHECKS.sentence("false, if it has not so many, or n is below 0.");
        InstalmentDesk desk = new InstalmentDesk();
        CHECKS.holds("1 of 0", !desk.end(1));
        desk.feed(0, 0, 0, 0, 0);
        CHECKS.holds("21 of 20", !desk.end(21));
        CHECKS.holds("most", !desk.end(Integer.MAX_VALUE));
        CHECKS.holds("below 0", !desk.end(-1));
        CHECKS.holds("least", !desk.end(Integer.MIN_VALUE));
        CHECKS.due("bytes as before", desk.now(10), 20);
        desk.end(5);
        CHECKS.holds("what was cut is not there", !desk.end(6));
        CHECKS.due("bytes as before", desk.now(10), 5);
    }

    private static void text() {
        CHECKS.sentence("how many LINES;");
        good(6, MUST);
        good(7, MUST + "over 1;");
        good(6 + 4 + 1 + 6 + 20 + 20, MUST + "upto 1 1;upto 2 1;upto 3 1;upto 4 1;over 1;rate 0 1;rate 1 1;rate 2 1;"
            + "rate 3 1;rate 4 1;rate 5 1;" + "income 1 1;".repeat(20) + "pay 1 1;".repeat(20));
    }

    private static void textEmptiesTheTape() {
        CHECKS.sentence("The tape (empty then, even with a FAULT) is a TEXT");
        InstalmentDesk desk = new InstalmentDesk();
        Checks.tell(desk, MUST);
        CHECKS.due("bytes after a TEXT", desk.now(10), 0);
        Checks.tell(desk, MUST + "?");
        CHECKS.due("bytes after a FAULT", desk.now(10), 0);
        CHECKS.holds("no byte is there", !desk.end(1));
        CHECKS.due("feed is the first again", desk.feed(BLANKS, BLANKS, BLANKS, BLANKS, BLANKS), 20);
        CHECKS.due("of blanks, no byte from ahead", desk.text(), 0);
    }

    private static void textEmpty() {
        CHECKS.sentence("(an empty one: as at first)");
        String[] empty = {"", " ", "\n", Checks.padded("", 800)};
        for (String text : empty) {
            InstalmentDesk desk = Checks.told(Checks.YEAR);
            desk.pay(399, 99999);
            desk.refund(400, 1);
            desk.earn(0, 1);
            desk.bar(1);
            CHECKS.due("text", Checks.tell(desk, text), 0);
            CHECKS.due("fault", desk.fault(), 0);
            for (int what = 0; what <= 10; what++) {
                CHECKS.due("now(" + what + ")", desk.now(what), 0);
            }
            for (int p = 0; p < 4; p++) {
                for (int what = 0; what < 10; what++) {
                    CHECKS.due("period(" + p + ", " + what + ")", desk.period(p, what), 0);
                }
            }
            CHECKS.due("TAX", desk.tax(9999999), 0);
            CHECKS.due("R", desk.rate(499), 0);
            CHECKS.due("INCOME", desk.income(499), 0);
            CHECKS.due("PAYMENT 0", desk.payment(0, 0), -1);
            CHECKS.due("CREDIT", desk.free(499), 0);
            CHECKS.due("undo", desk.undo(), -1);
            CHECKS.due("latest, of END 0", desk.latest(1), 0);
        }
        bad(1, Checks.padded("", 800) + "^ ");
    }

    private static void textFaultPlace() {
        CHECKS.sentence("-1 less the place of a FAULT");
        CHECKS.due("place 0", Checks.tell(new InstalmentDesk(), "?"), -1);
        CHECKS.due("place 1", Checks.tell(new InstalmentDesk(), " ?"), -2);
        CHECKS.due("place 799", Checks.tell(new InstalmentDesk(), Checks.padded(MUST, 799) + "?"), -800);
        CHECKS.due("place 800", Checks.tell(new InstalmentDesk(), Checks.padded(MUST, 801)), -801);
    }

    private static void textAllStays() {
        CHECKS.sentence("all stays");
        String other = "year 7 7 7;period 0 0;period 1 1;period 2 2;period 3 3;share 7 7;upto 7 7;over 7;rate 7 7;"
            + "income 7 7;pay 7 7;";
        for (String wrong : new String[] {"?", other + "over 1;", other + "pay 500 1;", other + "pay", "year",
            Checks.padded(other, 801)}) {
            InstalmentDesk desk = Checks.told(Checks.YEAR);
            desk.pay(240, 10000);
            desk.refund(300, 7);
            desk.earn(0, 1);
            desk.bar(1);
            String before = all(desk);
            CHECKS.holds("a FAULT of " + wrong, Checks.tell(desk, wrong) < 0);
            CHECKS.holds("as before " + wrong, all(desk).equals(before));
            CHECKS.due("undo bar", desk.undo(), 3);
            CHECKS.due("undo earn", desk.undo(), 2);
            CHECKS.due("undo refund", desk.undo(), 1);
            CHECKS.due("undo pay", desk.undo(), 0);
            CHECKS.due("COSTS of the TEXT", desk.now(4), 78);
        }
    }

    private static String all(InstalmentDesk desk) {
        StringBuilder answers = new StringBuilder();
        for (int what = 0; what <= 10; what++) {
            answers.append(desk.now(what)).append(' ');
        }
        for (int p = 0; p < 4; p++) {
            for (int what = 0; what < 10; what++) {
                answers.append(desk.period(p, what)).append(' ');
            }
        }
        for (int day = 0; day < 500; day++) {
            answers.append(desk.income(day)).append(' ').append(desk.free(day)).append(' ').append(desk.rate(day));
            answers.append(' ');
        }
        for (int k = 0; k < 4; k++) {
            answers.append(desk.payment(k, 0)).append(' ').append(desk.payment(k, 1)).append(' ');
        }
        return answers.append(desk.tax(9999)).append(' ').append(desk.tax(9999999)).toString();
    }

    private static void fault() {
        CHECKS.sentence("The kind of the FAULT of the latest text(); 0 without one and ahead of any.");
        InstalmentDesk desk = new InstalmentDesk();
        CHECKS.due("ahead of any", desk.fault(), 0);
        Checks.feed(desk, new byte[] {'?'});
        CHECKS.due("fed alone", desk.fault(), 0);
        desk.text();
        CHECKS.due("kind 1", desk.fault(), 1);
        CHECKS.due("kind 1 yet", desk.fault(), 1);
        Checks.tell(desk, MUST + "pay 500 1;");
        CHECKS.due("kind 2", desk.fault(), 2);
        Checks.tell(desk, MUST + "over 1;over 1;");
        CHECKS.due("kind 3", desk.fault(), 3);
        desk.pay(0, 1);
        desk.undo();
        CHECKS.due("kind 3 yet", desk.fault(), 3);
        Checks.tell(desk, MUST);
        CHECKS.due("without one", desk.fault(), 0);
        Checks.tell(desk, "?");
        Checks.tell(desk, "");
        CHECKS.due("of an empty one", desk.fault(), 0);
    }

    private static boolean isLetterOrDigit(int sign) {
        return sign >= 'a' && sign <= 'z' || sign >= '0' && sign <= '9';
    }

    private static void good(int lines, String text) {
        InstalmentDesk desk = new InstalmentDesk();
        CHECKS.due("text " + text, Checks.tell(desk, text), lines);
        CHECKS.due("fault of " + text, desk.fault(), 0);
    }

    /** The sign ^ stands ahead of the place of the FAULT and is not told. */
    private static void bad(int kind, String marked) {
        int place = marked.indexOf('^');
        String text = marked.substring(0, place) + marked.substring(place + 1);
        InstalmentDesk desk = new InstalmentDesk();
        CHECKS.due("text " + text, Checks.tell(desk, text), -1 - place);
        CHECKS.due("fault of " + text, desk.fault(), kind);
    }
}
