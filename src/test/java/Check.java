import java.nio.charset.StandardCharsets;
import java.util.NoSuchElementException;

/** Counts the answers that are not due, and feeds texts. */
final class Check {
    private static int wrong = 0;
    private static int asked = 0;

    private Check() {
    }

    static void due(String what, long got, long want) {
        asked++;
        if (got != want) {
            wrong++;
            System.out.println(what + " answered " + got + ", due is " + want);
        }
    }

    static void due(String what, boolean got, boolean want) {
        due(what, got ? 1 : 0, want ? 1 : 0);
    }

    /** An answer, and the trouble behind it. */
    static void due(ClosePacking x, String what, long got, long want, int trouble) {
        due(what, got, want);
        due("trouble() behind " + what, x.trouble(), trouble);
    }

    static void due(ClosePacking x, String what, boolean got, boolean want, int trouble) {
        due(x, what, got ? 1 : 0, want ? 1 : 0, trouble);
    }

    static void same(String what, String got, String want) {
        asked++;
        if (!got.equals(want)) {
            wrong++;
            System.out.println(what + " is\n" + got + "\ndue is\n" + want);
        }
    }

    static void dueNoSuch(String what, ClosePacking x, int i) {
        int thrown = 0;
        try {
            x.led(i);
        } catch (NoSuchElementException e) {
            thrown = 1;
        }
        due(what + " throws", thrown, 1);
    }

    static int number(byte[] bytes, int from) {
        int result = 0;
        for (int i = from; i < from + 4; i++) {
            result = result << 8 | (i < bytes.length ? bytes[i] & 255 : ' ');
        }
        return result;
    }

    static void feed(ClosePacking x, String text) {
        byte[] bytes = text.getBytes(StandardCharsets.ISO_8859_1);
        for (int i = 0; i < bytes.length; i += 20) {
            x.feed(number(bytes, i), number(bytes, i + 4), number(bytes, i + 8),
                    number(bytes, i + 12), number(bytes, i + 16));
        }
    }

    static int tell(ClosePacking x, String text) {
        feed(x, text);
        return x.lab(text.length());
    }

    static ClosePacking told(String text) {
        ClosePacking x = new ClosePacking();
        if (tell(x, text) < 1) {
            due("lab: " + text, x.fault() * 1000 + x.where(), 0);
        }
        return x;
    }

    static void end() {
        System.out.println(asked + " answers asked, " + wrong + " not as due");
        if (wrong > 0 || asked == 0) {
            System.exit(1);
        }
    }
}
