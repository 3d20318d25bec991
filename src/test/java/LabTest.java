/** Promises 1 to 5, 58 and 59 of the lab: the tape, reading, the fault and its place. */
public final class LabTest {
    private static final String HEAD = "lab near 3 second 1 third -1 growth 25;";

    public static void main(String[] args) {
        newObject();
        tapeOfFiveHundred();
        bytesHighestFirst();
        labTakesTheFirstBytes();
        labRefusedByNumber();
        labRefusedByFault();
        labBeginsAnew();
        faultAndWhere();
        Check.end();
    }

    private static void newObject() {
        ClosePacking x = new ClosePacking();
        Check.due("trouble() at first", x.trouble(), 0);
        Check.due("fault() at first", x.fault(), 0);
        Check.due("where() at first", x.where(), ClosePacking.NONE);
        for (int what = 0; what <= 9; what++) {
            Check.due("size(" + what + ") at first", x.size(what), 0);
        }
        Check.due(x, "image() at first", x.image(), -1, 1);
        Check.due(x, "stack(0, 0) at first", x.stack(0, 0), -1, 1);
    }

    private static void tapeOfFiveHundred() {
        ClosePacking x = new ClosePacking();
        x.undo();
        for (int i = 1; i <= 25; i++) {
            Check.due("feed " + i, x.feed(0x20202020, 0x20202020, 0x20202020, 0x20202020, 0x20202020), 20 * i);
        }
        Check.due("feed 26", x.feed(1, 2, 3, 4, 5), -1);
        Check.due("trouble() behind feed", x.trouble(), 6);
        Check.due("size(9)", x.size(9), 500);
        Check.due(x, "lab(501)", x.lab(501), -1, 2);
        Check.due("size(9) then", x.size(9), 500);
        Check.due(x, "lab(500)", x.lab(500), -1, 4);
        Check.due("fault() of blanks", x.fault(), 1);
        Check.due("where() of blanks", x.where(), 500);
        Check.due("size(9) behind lab", x.size(9), 0);
        Check.due("feed again", x.feed(1, 2, 3, 4, 5), 20);

        StringBuilder text = new StringBuilder(HEAD + "stack a uud");
        while (text.length() < 490) {
            text.append(' ');
        }
        text.append(";stack b d");
        ClosePacking full = new ClosePacking();
        Check.due("a text of 500", Check.tell(full, text.toString()), -1);
        Check.due("its fault", full.fault(), 7);
        Check.due("its place", full.where(), 499);
        text.delete(400, 401).append('u');
        Check.due("a good text of 500", Check.tell(full, text.toString()), 2);
        Check.due("its last stack", full.stack(1, 1), 1);
    }

    private static void bytesHighestFirst() {
        ClosePacking x = new ClosePacking();
        x.feed(0x6c616220, 0x6e656172, 0x20203020, 0x7365636f, 0x6e642030);
        x.feed(0x20746869, 0x72642030, 0x2067726f, 0x77746820, 0x373b3b20);
        Check.due(x, "lab(38)", x.lab(38), -1, 4);
        Check.due("fault", x.fault(), 1);
        Check.due("where", x.where(), 38);
        for (int i = 0; i < 20; i++) {
            int[] numbers = {0x20202020, 0x20202020, 0x20202020, 0x20202020, 0x20202020};
            numbers[i / 4] |= 0xe0 << (24 - i % 4 * 8);
            x.feed(numbers[0], numbers[1], numbers[2], numbers[3], numbers[4]);
            Check.due(x, "lab(20)", x.lab(20), -1, 4);
            Check.due("the place of byte " + i, x.where(), i);
        }
    }

    private static void labTakesTheFirstBytes() {
        ClosePacking x = new ClosePacking();
        String text = HEAD + "stack a uudd";
        Check.feed(x, text + "xx=");
        Check.due(x, "lab of its first bytes", x.lab(text.length()), 1, 0);
        Check.due("four steps", x.stack(0, 0), 4);
        Check.feed(x, text);
        Check.due(x, "lab of fewer", x.lab(text.length() - 1), 1, 0);
        Check.due("three steps", x.stack(0, 0), 3);
        Check.due("the tape is empty", x.size(9), 0);
    }

    private static void labRefusedByNumber() {
        ClosePacking x = Check.told(HEAD + "stack a uud;stack b ud");
        Check.feed(x, HEAD + "stack a u");
        int fed = x.size(9);
        int[] wrong = {-1, fed + 1, Integer.MAX_VALUE, Integer.MIN_VALUE};
        for (int n : wrong) {
            Check.due(x, "lab(" + n + ")", x.lab(n), -1, 2);
            Check.due("size(9)", x.size(9), fed);
            Check.due("size(4)", x.size(4), 2);
            Check.due("fault()", x.fault(), 0);
            Check.due("where()", x.where(), -1);
        }
    }

    private static void labRefusedByFault() {
        ClosePacking x = Check.told(HEAD + "stack a uud;stack b ud;unsure a 0;agreed b 2 2");
        x.slip(0, 2);
        x.image();
        x.twin(1);
        Check.due(x, "a second lab", Check.tell(x, "lab near 9 second 9 third 9 growth 99;stack z uuuu;stack z"), -1, 4);
        int[] sizes = {103, 101, 99, 25, 2, 1, 1, 2, 1, 0};
        for (int what = 0; what < sizes.length; what++) {
            Check.due("size(" + what + ") as ahead", x.size(what), sizes[what]);
        }
        Check.due("its row stays", x.stack(0, 1), 7);
        Check.due("its other row stays", x.stack(1, 1), 1);
        Check.due("its fits stay", x.fits(), 2);
        Check.due(x, "undo() behind it", x.undo(), true, 0);
        Check.due("undone", x.stack(1, 1), 2);
        Check.due(x, "back(0) behind it", x.back(0), true, 0);
    }

    private static void labBeginsAnew() {
        ClosePacking x = Check.told(HEAD + "stack a uud;unsure a 1;agreed a 1 0");
        x.slip(0, 0);
        x.image();
        Check.due(x, "another lab", Check.tell(x, "lab near 0 second 0 third 0 growth 0;stack z uuuu;stack y ud"), 2, 0);
        int[] sizes = {100, 100, 100, 0, 2, 0, 0, 0, 0, 0};
        for (int what = 0; what < sizes.length; what++) {
            Check.due("size(" + what + ") anew", x.size(what), sizes[what]);
        }
        Check.due(x, "undo() anew", x.undo(), false, 6);
        Check.due(x, "back(0) anew", x.back(0), false, 1);
        Check.due("stack(0, 1) anew", x.stack(0, 1), 15);
        Check.due(x, "a third lab", Check.tell(x, HEAD + "stack a uuu;stack b uuuu;stack c ud"), 3, 0);
        Check.due("no unsure ones of the first", x.size(5), 0);
        Check.due("no agreed ones of the first", x.size(6), 0);
        Check.due(x, "a fourth lab", Check.tell(x, HEAD + "stack a uuu;stack b ud"), 2, 0);
        Check.due(x, "no stack of the third", x.sum(2), -100, 1);
        Check.dueNoSuch("led(0) of the fourth", x, 0);
        Check.due(x, "calmest() of the fourth", x.calmest(), 0, 0);
    }

    private static void faultAndWhere() {
        ClosePacking x = new ClosePacking();
        Check.due("a fault", Check.tell(x, HEAD + "stack a uud;stack a ud"), -1);
        Check.due("fault()", x.fault(), 3);
        Check.due("where()", x.where(), 57);
        x.feed(0, 0, 0, 0, 0);
        x.size(4);
        Check.due("where() behind calls that aren't refused", x.where(), 57);
        x.undo();
        Check.due("where() behind another refusal", x.where(), -1);
        Check.due("fault() behind it", x.fault(), 3);
        x.lab(-1);
        Check.due("fault() behind lab(-1)", x.fault(), 3);
        Check.due("where() behind lab(-1)", x.where(), -1);
        x.lab(20);
        Check.due("fault() of bytes 0", x.fault(), 1);
        Check.due("where() of bytes 0", x.where(), 0);
        Check.tell(x, HEAD + "stack a uud");
        Check.due("fault() without one", x.fault(), 0);
        Check.due("where() without one", x.where(), -1);
    }
}
