import java.nio.charset.StandardCharsets;

/** Counts answers that are as due and prints those that are not. */
final class Checks {
    static final String FRAME =
        "year 10000 500 400;period 100 89;period 160 149;period 250 239;period 360 364;share 90 100;";
    static final String YEAR = FRAME
        + "upto 10000 10;over 20;rate 0 10;rate 200 30;"
        + "income 10 20000;income 120 10000;income 300 30000;pay 95 1500;pay 170 3000;";

    // Stands for an exception; no call answers so.
    static final long THROWS = Long.MIN_VALUE;

    private int passed;
    private int failed;
    // The document's words that the checks now look at; empty where a test tells no words.
    private String words = "";

    /** What follows looks at these words of the document: a check that fails tells them. */
    void sentence(String documentWords) {
        words = "[" + documentWords + "] ";
    }

    void due(String call, long got, long want) {
        if (got == want) {
            passed++;
        } else {
            failed++;
            System.out.println(words + call + " answered " + got + ", due is " + want);
        }
    }

    void holds(String what, boolean held) {
        if (held) {
            passed++;
        } else {
            failed++;
            System.out.println(words + "not so: " + what);
        }
    }

    void close(String name) {
        System.out.println(name + ": " + passed + " passed, " + failed + " failed");
        if (failed != 0 || passed == 0) {
            System.exit(1);
        }
    }

    /** What late(i, what) answers, or THROWS. */
    static long late(InstalmentDesk desk, int i, int what) {
        try {
            return desk.late(i, what);
        } catch (java.util.NoSuchElementException e) {
            return THROWS;
        }
    }

    static void feed(InstalmentDesk desk, byte[] bytes) {
        for (int from = 0; from < bytes.length; from += 20) {
            int[] words = new int[5];
            for (int i = 0; i < 20; i++) {
                int sign = from + i < bytes.length ? bytes[from + i] & 255 : 0;
                words[i / 4] = words[i / 4] << 8 | sign;
            }
            desk.feed(words[0], words[1], words[2], words[3], words[4]);
        }
        desk.end(bytes.length);
    }

    static int tell(InstalmentDesk desk, String text) {
        feed(desk, text.getBytes(StandardCharsets.ISO_8859_1));
        return desk.text();
    }

    static InstalmentDesk told(String text) {
        InstalmentDesk desk = new InstalmentDesk();
        tell(desk, text);
        return desk;
    }

    /** The text, with blanks behind it until it has so many bytes. */
    static String padded(String text, int bytes) {
        return text + " ".repeat(bytes - text.length());
    }
}
