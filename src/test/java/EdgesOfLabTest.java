/** Boundary cases of promises 1 to 5: no lab, the tape, what lab() refuses, the fault and its place. */
public final class EdgesOfLabTest {
    private static final int BLANKS = 0x20202020;

    public static void main(String[] args) {
        noLab();
        tapeEmpty();
        tapeFull();
        oneByteTooMany();
        highestByteFirst();
        tapeFromOneFeedToTheNext();
        firstBytesAlone();
        fewestAndMost();
        refusedByNumber();
        refusedByFault();
        fromNowOn();
        faultOfTheLatest();
        placeOfTheFault();
        Check.end();
    }

    private static void feedBlanks(ClosePacking x, int times) {
        for (int i = 0; i < times; i++) {
            x.feed(BLANKS, BLANKS, BLANKS, BLANKS, BLANKS);
        }
    }

    /** Promise 1: "No LAB." What there isn't is 0, or refused. */
    private static void noLab() {
        ClosePacking x = new ClosePacking();
        Check.due("trouble() of a new object", x.trouble(), 0);
        Check.due("where() of a new object", x.where(), -1);
        Check.due("fault() of a new object", x.fault(), 0);
        for (int what = 0; what <= 9; what++) {
            Check.due("size(" + what + ") of a new object", x.size(what), 0);
        }
        Check.dueNoSuch("led(0) of a new object", x, 0);
        Check.due("trouble() still", x.trouble(), 0);
        ClosePacking y = new ClosePacking();
        Check.tell(y, "lab near 5 second 5 third 5 growth 5;stack a");
        for (int what = 0; what <= 9; what++) {
            Check.due("size(" + what + ") behind a fault", y.size(what), 0);
        }
        Check.due(y, "ground(2) behind a fault", y.ground(2), -1000000, 1);
    }

    /** Promise 3, with nothing on the tape: 0 bytes are a text, one byte is too many. */
    private static void tapeEmpty() {
        ClosePacking x = new ClosePacking();
        Check.due(x, "lab(0) of an empty tape", x.lab(0), -1, 4);
        Check.due("its fault", x.fault(), 1);
        Check.due("its place", x.where(), 0);
        Edge.refused("lab(1) of an empty tape", Edge::none, y -> y.lab(1), -1, 2);
        Edge.refused("lab(-1) of an empty tape", Edge::none, y -> y.lab(-1), -1, 2);
        Edge.refused("lab(1) of an empty tape, with a lab", Edge::fewest, y -> y.lab(1), -1, 2);
        ClosePacking z = Check.told(Edge.FEWEST);
        Check.due("the tape is empty behind a lab", z.size(9), 0);
        Check.due(z, "lab(0) behind a lab", z.lab(0), -1, 4);
        Check.due("the lab stays", z.size(4), 1);
        Check.due("20 bytes", z.feed(BLANKS, BLANKS, BLANKS, BLANKS, BLANKS), 20);
        Check.due(z, "lab(0) of 20 bytes", z.lab(0), -1, 4);
        Check.due("its place", z.where(), 0);
        Check.due("the tape is empty behind lab(0)", z.size(9), 0);
    }

    /** Promise 2: "how many it has", up to 500. */
    private static void tapeFull() {
        ClosePacking x = new ClosePacking();
        for (int i = 1; i <= 25; i++) {
            Check.due("feed " + i, x.feed(BLANKS, BLANKS, BLANKS, BLANKS, BLANKS), 20 * i);
            Check.due("size(9) behind feed " + i, x.size(9), 20 * i);
        }
        Check.due(x, "lab(500)", x.lab(500), -1, 4);
        Check.due("where() of 500 blanks", x.where(), 500);
        ClosePacking y = new ClosePacking();
        Check.feed(y, Edge.padded(Edge.FEWEST, 498) + ";=");
        Check.due(y, "lab(500) with its last byte wrong", y.lab(500), -1, 4);
        Check.due("where() of the last byte", y.where(), 499);
        Check.feed(y, Edge.padded(Edge.FEWEST, 498) + ";=");
        Check.due(y, "lab(498)", y.lab(498), 1, 0);
        Check.due("a full tape is empty behind lab(498)", y.size(9), 0);
        String last = ";unsure a 1";
        Check.due("a text that ends with byte 500",
                Check.tell(y, Edge.padded(Edge.FEWEST, 500 - last.length()) + last), 1);
        Check.due("its last line counts", y.size(5), 1);
    }

    /** Promise 2: "NONE, and none comes, if there would be more than 500" */
    private static void oneByteTooMany() {
        String text = Edge.padded(Edge.FEWEST, 490) + ";stack b u";
        ClosePacking x = new ClosePacking();
        Check.feed(x, text);
        for (int i = 0; i < 3; i++) {
            Check.due("feed of a full tape", x.feed(0x75757575, 0x75757575, 0x75757575, 0x75757575, 0x75757575), -1);
            Check.due("size(9) then", x.size(9), 500);
        }
        Check.due(x, "lab(501) of a full tape", x.lab(501), -1, 2);
        Check.due("a full tape stays", x.size(9), 500);
        Check.due(x, "lab(500): its row is of one step", x.lab(500), -1, 4);
        Check.due("fault()", x.fault(), 7);
        Check.due("where()", x.where(), 499);
        Check.due("feed of the empty tape", x.feed(0, 0, 0, 0, 0), 20);
        for (int trouble = 0; trouble <= 6; trouble += 6) {
            ClosePacking y = new ClosePacking();
            feedBlanks(y, 25);
            if (trouble == 6) {
                y.undo();
            }
            y.feed(1, 2, 3, 4, 5);
            Check.due("feed tells no number of a trouble", y.trouble(), trouble);
        }
        ClosePacking full = Edge.most();
        ClosePacking twin = Edge.most();
        Check.due("feed of a full tape, with a lab", full.feed(1, 2, 3, 4, 5), -1);
        Edge.alike("feed of a full tape", full, twin);
    }

    /** Promise 2: "Twenty bytes ..., of each number the highest first"; a byte of 128 and above, too. */
    private static void highestByteFirst() {
        for (int place = 0; place < 20; place++) {
            for (int sign : new int[] {1, 127, 128, 255}) {
                int[] numbers = {BLANKS, BLANKS, BLANKS, BLANKS, BLANKS};
                int shift = 8 * (3 - place % 4);
                numbers[place / 4] = BLANKS & ~(255 << shift) | sign << shift;
                ClosePacking x = new ClosePacking();
                x.feed(numbers[0], numbers[1], numbers[2], numbers[3], numbers[4]);
                Check.due(x, "lab(20)", x.lab(20), -1, 4);
                Check.due("where() of byte " + place, x.where(), place);
            }
        }
        ClosePacking x = new ClosePacking();
        int[] extremes = {Integer.MIN_VALUE, Integer.MAX_VALUE, -1, 0};
        for (int number : extremes) {
            Check.due("feed of " + number, x.feed(number, number, number, number, number), 20);
            Check.due(x, "lab(20) of it", x.lab(20), -1, 4);
            Check.due("its place", x.where(), 0);
            Check.due("its fault", x.fault(), 1);
        }
    }

    /** Tokens that go over from one number, and from one feed, to the next. */
    private static void tapeFromOneFeedToTheNext() {
        for (int ahead = 0; ahead < 24; ahead++) {
            ClosePacking x = new ClosePacking();
            String text = Edge.padded("", ahead) + "lab near 12 second -34 third 56 growth 78;stack abcdefgh uduuduudduuu";
            Check.due("blanks ahead: " + ahead, Check.tell(x, text), 1);
            Check.due("its near", x.size(0), 112);
            Check.due("its second", x.size(1), 66);
            Check.due("its third", x.size(2), 156);
            Check.due("its growth", x.size(3), 78);
            Check.due("its row", x.stack(0, 1), 0b101101100111);
        }
    }

    /** Promise 3: "The first n bytes of THE TAPE (it is empty then)": what stands behind them is none of it. */
    private static void firstBytesAlone() {
        String text = Edge.HEAD + "stack a uuuuuuuuuuuu";
        for (int steps = 0; steps <= 12; steps++) {
            ClosePacking x = new ClosePacking();
            Check.feed(x, text);
            int n = Edge.HEAD.length() + 8 + steps;
            Check.due("lab of " + steps + " steps", x.lab(n), steps < 2 ? -1 : 1);
            Check.due("its fault", x.fault(), steps == 0 ? 1 : steps == 1 ? 7 : 0);
            Check.due("its place", x.where(), steps == 0 ? n : steps == 1 ? n - 1 : -1);
            Check.due("its steps", x.stack(0, 0), steps < 2 ? -1 : steps);
            Check.due("the tape is empty", x.size(9), 0);
        }
        String wholes = "lab near 0 second 0 third 0 growth 100";
        for (int cut = 0; cut <= 2; cut++) {
            ClosePacking x = new ClosePacking();
            Check.feed(x, wholes);
            Check.due("no stack", x.lab(wholes.length() - cut), -1);
            Check.due("its fault", x.fault(), 6);
            Check.due("its place", x.where(), wholes.length() - cut);
            Check.due("no lab", x.size(3), 0);
        }
    }

    /** Promise 3: "how many stacks" */
    private static void fewestAndMost() {
        ClosePacking x = new ClosePacking();
        Check.due(x, "lab of fewest", Check.tell(x, Edge.FEWEST), 1, 0);
        int[] fewest = {100, 100, 100, 0, 1, 0, 0, 0, 0, 0};
        for (int what = 0; what <= 9; what++) {
            Check.due("size(" + what + ") of fewest", x.size(what), fewest[what]);
        }
        ClosePacking y = new ClosePacking();
        Check.due(y, "lab of most", Check.tell(y, Edge.MOST), 5, 0);
        int[] most = {199, 1, 199, 100, 5, 4, 6, 0, 0, 0};
        for (int what = 0; what <= 9; what++) {
            Check.due("size(" + what + ") of most", y.size(what), most[what]);
        }
    }

    /** Promise 3: "NONE: 2 (THE TAPE stays)" */
    private static void refusedByNumber() {
        int[] wrong = {-1, 501, Integer.MAX_VALUE, Integer.MIN_VALUE};
        for (int n : wrong) {
            Edge.refused("lab(" + n + ") of 500 bytes", Edge::most, x -> x.lab(n), -1, 2);
            Edge.refused("lab(" + n + ") of none", Edge::fewest, x -> x.lab(n), -1, 2);
        }
        ClosePacking x = new ClosePacking();
        Check.feed(x, Edge.FEWEST);
        int fed = x.size(9);
        Check.due(x, "lab of one byte too many", x.lab(fed + 1), -1, 2);
        Check.due("the tape stays", x.size(9), fed);
        Check.due("no lab", x.size(4), 0);
        Check.due(x, "lab of all bytes", x.lab(fed), 1, 0);
    }

    /** Promise 3: "4 (the LAB stays)": with all acts and images; the tape is empty. */
    private static void refusedByFault() {
        ClosePacking x = Edge.most();
        ClosePacking twin = Edge.most();
        Check.due(x, "lab(0)", x.lab(0), -1, 4);
        Check.due("the tape is empty", x.size(9), 0);
        twin.lab(0);
        for (int what = 0; what <= 8; what++) {
            Check.due("size(" + what + ") stays", x.size(what), Edge.most().size(what));
        }
        Check.due("acts stay", x.size(7), 16);
        Check.due("images stay", x.size(8), 3);
        // A text that is wrong at its very end alone, when all else of it has been read.
        x.feed(BLANKS, BLANKS, BLANKS, BLANKS, BLANKS);
        Check.due(x, "another lab, wrong at its end",
                Check.tell(x, "lab near 1 second 2 third 3 growth 4;stack q uud;unsure q 0;agreed q 1 1;"), -1, 4);
        Check.due(x, "fault()", x.fault(), 1, 4);
        twin.lab(0);
        Edge.alike("a lab refused by its fault", x, twin);
    }

    /** Promise 3: "are the LAB from now on (nothing to undo, no IMAGES)" */
    private static void fromNowOn() {
        ClosePacking x = Edge.most();
        Check.due(x, "lab of the full tape", x.lab(500), 2, 0);
        int[] sizes = {100, 100, 100, 0, 2, 0, 0, 0, 0, 0};
        for (int what = 0; what <= 9; what++) {
            Check.due("size(" + what + ") from now on", x.size(what), sizes[what]);
        }
        Check.due("rows", x.stack(0, 1) * 16 + x.stack(1, 1), 2 * 16 + 13);
        Check.due(x, "no third stack", x.stack(2, 0), -1, 1);
        Check.due(x, "nothing to undo", x.undo(), false, 6);
        Check.due(x, "no image 0", x.back(0), false, 1);
        Check.due(x, "the first image again", x.image(), 0, 0);
        Check.due(x, "fits of no unsure ones", x.fits(), 1, 0);
        Check.due(x, "judge of no agreed ones", x.judge(), -2, 0);
        // Behind most and two labs, and behind one that was refused with all of its lines read.
        for (int i = 0; i < 3; i++) {
            Check.due(x, "lab of fewest " + i, Check.tell(x, Edge.FEWEST), 1, 0);
            Check.due("unsure ones of fewest", x.size(5), 0);
            Check.due("agreed ones of fewest", x.size(6), 0);
            Check.due(x, "judge of fewest", x.judge(), -2, 0);
            Check.due(x, "no second stack", x.energy(1), -1000000, 1);
            Check.due(x, "a lab of most, refused", Check.tell(x, Edge.MOST + "="), -1, 4);
        }
        Check.due(x, "the lab of the full tape again", Check.tell(x, Edge.HEAD + "stack z dud;stack y uudu"), 2, 0);
        // The same text once more: as told, not as it is now.
        x.twin(0);
        Check.due("told again", Check.tell(x, Edge.HEAD + "stack z dud;stack y uudu"), 2);
        Check.due("its row as told", x.stack(0, 1), 2);
    }

    /** Promise 4: "of the latest lab() not refused by 2; 0 without one" */
    private static void faultOfTheLatest() {
        ClosePacking x = new ClosePacking();
        x.lab(1);
        Check.due("fault() behind one refused by 2 alone", x.fault(), 0);
        String[] texts = {"=", "lab near 0 second 0 third 0 growth 0;unsure a 0",
            "lab near 0 second 0 third 0 growth 0;lab", "lab near 100", Edge.HEAD
            + "stack a ud;stack b ud;stack c ud;stack e ud;stack f ud;stack g ud", "stack a ud", Edge.HEAD + "stack a u"};
        for (int i = 0; i < texts.length; i++) {
            Check.tell(x, texts[i]);
            Check.due("fault() of " + texts[i], x.fault(), i + 1);
            x.lab(-1);
            x.lab(x.size(9) + 1);
            Check.due("fault() behind ones refused by 2", x.fault(), i + 1);
            x.undo();
            x.image();
            Check.due("fault() behind other calls", x.fault(), i + 1);
        }
        Check.tell(x, Edge.FEWEST);
        Check.due("fault() without one", x.fault(), 0);
        x.lab(-1);
        Check.due("fault() without one, behind one refused by 2", x.fault(), 0);
    }

    /** Promise 5: "if the latest call that may be refused was by 4; NONE else" */
    private static void placeOfTheFault() {
        ClosePacking x = new ClosePacking();
        Check.tell(x, "   =");
        Check.due("where()", x.where(), 3);
        Check.due("where() again", x.where(), 3);
        x.feed(1, 2, 3, 4, 5);
        x.fault();
        x.size(0);
        x.size(10);
        x.trouble();
        Check.dueNoSuch("led(0)", x, 0);
        Check.due("where() behind calls that can't be refused", x.where(), 3);
        x.lab(21);
        Check.due("where() behind one by 2", x.where(), -1);
        x.lab(20);
        Check.due("where() of the next fault", x.where(), 0);
        x.calmest();
        Check.due("where() behind one by 1", x.where(), -1);
        Check.tell(x, Edge.FEWEST + ";");
        Check.due("where() of the end", x.where(), Edge.FEWEST.length() + 1);
        x.undo();
        Check.due("where() behind one by 6", x.where(), -1);
        Check.tell(x, Edge.FEWEST);
        Check.due("where() without a fault", x.where(), -1);
        Check.tell(x, "lab");
        Check.due("where() of a fault again", x.where(), 3);
        x.calmest();
        Check.due("where() behind one that isn't refused", x.where(), -1);
        Check.due("fault() is still told", x.fault(), 1);
    }
}
