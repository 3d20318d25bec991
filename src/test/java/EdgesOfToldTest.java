import java.util.ArrayList;
import java.util.List;
import java.util.NoSuchElementException;
import java.util.function.Supplier;

/** Boundary cases of promises 57 to 59, and what holds of all calls: questions change nothing, 512 calls. */
public final class EdgesOfToldTest {
    /** A call that asks and is granted with most of everything, and what it answers then. */
    private record Question(String name, Edge.Call call, long due, long withoutLab) {
    }

    private static final List<Question> QUESTIONS = new ArrayList<>();

    public static void main(String[] args) {
        questions();
        ledFirstAndLast();
        ledNone();
        ledNow();
        ledLeavesAll();
        sizesLeastAndMost();
        sizesOfTheTape();
        sizesOfActsAndImages();
        sizeOfOthers();
        troubleOfEachNumber();
        troubleIsOfTheLatest();
        troubleOfCallsThatAreNotRefused();
        questionsChangeNothing();
        questionsWithoutLab();
        manyCalls();
        Check.end();
    }

    private static void ask(String name, Edge.Call call, long due, long withoutLab) {
        QUESTIONS.add(new Question(name, call, due, withoutLab));
    }

    /** Of Edge.MOST: stack 0 is eleven up and one down, 1 all up, 2 all down, 3 by turns, 4 two and two. */
    private static void questions() {
        ask("stack", x -> x.stack(0, 2), 36, -1);
        ask("sum", x -> x.sum(0), 10, -100);
        ask("layer", x -> x.layer(0, 35), 1, -1);
        ask("hex", x -> x.hex(0, 35), 1, -1);
        ask("run", x -> x.run(0, 0), 11, -1);
        ask("agree", x -> x.agree(0, 36), 36, -1);
        ask("share", x -> x.share(0, true), 6, -1);
        ask("energy", x -> x.energy(1), -1188, -1000000);
        ask("calmest", ClosePacking::calmest, 1, -1);
        ask("out", x -> x.out(0, 34), 1, -1);
        ask("outs", x -> x.outs(0), 24, -1);
        ask("firstLine", x -> x.firstLine(0), 2, -1);
        ask("sameLines", x -> x.sameLines(1, 2), 0, -1);
        ask("ground", x -> x.ground(2), -198, -1000000);
        ask("groundRow", x -> x.groundRow(2), 0, -1);
        ask("groundMany", x -> x.groundMany(2), 2, -1);
        ask("groundBest", ClosePacking::groundBest, 2, -1);
        ask("kinds", x -> x.kinds(12, 3, false), 122, -1);
        ask("alike", x -> x.alike(1, 2, 1), 1, -1);
        ask("least", x -> x.least(0, 0), 2047, -1);
        ask("manyAlike", x -> x.manyAlike(0, 3), 24, -1);
        ask("slips", x -> x.slips(1, 2, 0), 12, -1);
        ask("slipEnergy", x -> x.slipEnergy(0, 11), -1188, -1000000);
        ask("weakest", x -> x.weakest(0), 11, -1);
        ask("relax", x -> x.relax(1), 0, -1);
        ask("relaxed", x -> x.relaxed(1), 4095, -1);
        ask("pass", x -> x.pass(3, 3), 3564, -1000000);
        ask("valley", x -> x.valley(3), 4096, -1);
        ask("faultEnergy", x -> x.faultEnergy(0, 11), -1188, -1000000);
        ask("bestFault", x -> x.bestFault(0), 11, -1);
        ask("differs", x -> x.differs(0, 1), 2, -1);
        ask("fits", ClosePacking::fits, 12, -1);
        ask("fitAt", x -> x.fitAt(11), 15, -1);
        ask("could", ClosePacking::could, 15, -1);
        ask("surely", ClosePacking::surely, 0, -1);
        ask("ask", ClosePacking::ask, 2, -1);
        ask("askLeaves", ClosePacking::askLeaves, 6, -1);
        ask("judge", ClosePacking::judge, -2, -1);
        ask("odds", x -> x.odds(8, 7, false), 1, -1);
        ask("meanSum", x -> x.meanSum(8, false), 8, -1000000);
        ask("grown", x -> x.grown(65536, 12), 4095, -1);
        ask("longestRun", x -> x.longestRun(65536, 200), 200, -1);
    }

    /** "The i-th stack, by numbers": one of five, all five. */
    private static void ledFirstAndLast() {
        ClosePacking all = Edge.stacks("uu", "uuuu", "dd", "uuuuuuuuuuud", "ddddd");
        for (int i = 0; i < 5; i++) {
            Check.due("led(" + i + ") of five", all.led(i), i);
        }
        Check.dueNoSuch("led(5) of five", all, 5);
        Check.dueNoSuch("led(-1) of five", all, -1);
        Check.dueNoSuch("led(least)", all, Integer.MIN_VALUE);
        Check.dueNoSuch("led(greatest)", all, Integer.MAX_VALUE);
        for (int s = 0; s < 5; s++) {
            String[] rows = {"ud", "uuu", "udud", "uuuuuuuuuuuu", "uuuud"};
            rows[s] = "uud";
            ClosePacking one = Edge.stacks(rows);
            Check.due("led(0) of one", one.led(0), s);
            Check.dueNoSuch("led(1) of one", one, 1);
            Check.dueNoSuch("led(-1) of one", one, -1);
        }
        ClosePacking some = Edge.stacks("ud", "uu", "uuu", "dd", "udud");
        Check.due("led(0) of two", some.led(0), 1);
        Check.due("led(1) of two", some.led(1), 3);
        Check.dueNoSuch("led(2) of two", some, 2);
    }

    private static void ledNone() {
        Check.dueNoSuch("led(0) without a lab", Edge.none(), 0);
        Check.dueNoSuch("led(-1) without a lab", Edge.none(), -1);
        Check.dueNoSuch("led(0) of none such", Edge.fewest(), 0);
        Check.dueNoSuch("led(0) of five none such", Edge.stacks("ud", "uuu", "ddd", "uuuuuuuuuuuu", "ddddu"), 0);
        Check.due("led(0) of most", Edge.most().led(0), 0);
        Check.dueNoSuch("led(1) of most", Edge.most(), 1);
    }

    private static void ledNow() {
        ClosePacking x = Edge.stacks("ud", "uuu");
        x.slip(1, 0);
        Check.due("led(0) now", x.led(0), 1);
        x.grow(0, true);
        Check.due("led(0) of both", x.led(0), 0);
        Check.due("led(1) of both", x.led(1), 1);
        x.undo();
        x.undo();
        Check.dueNoSuch("led(0) undone", x, 0);
    }

    private static void ledLeavesAll() {
        ClosePacking x = Edge.most();
        ClosePacking twin = Edge.most();
        for (int trouble = 1; trouble <= 2; trouble++) {
            if (trouble == 1) {
                x.energy(-1);
            } else {
                x.lab(-1);
            }
            x.led(0);
            Check.due("trouble() behind led", x.trouble(), trouble);
            Check.dueNoSuch("led(1)", x, 1);
            Check.due("trouble() behind led that throws", x.trouble(), trouble);
        }
        Edge.alike("led", x, twin);
    }

    private static void dueSizes(String what, ClosePacking x, int... due) {
        for (int i = 0; i < due.length; i++) {
            Check.due("size(" + i + ") of " + what, x.size(i), due[i]);
        }
    }

    /** "each and 100": 1 .. 199; "0 for what there isn't" */
    private static void sizesLeastAndMost() {
        dueSizes("no lab", Edge.none(), 0, 0, 0, 0, 0, 0, 0, 0, 0, 0);
        dueSizes("fewest", Edge.fewest(), 100, 100, 100, 0, 1, 0, 0, 0, 0, 0);
        dueSizes("most", Edge.most(), 199, 1, 199, 100, 5, 4, 6, 16, 3, 500);
        dueSizes("least numbers", Edge.lab(-99, -99, -99, 0, "ud"), 1, 1, 1, 0, 1, 0, 0, 0, 0, 0);
        dueSizes("greatest numbers", Edge.lab(99, 99, 99, 100, "ud"), 199, 199, 199, 100, 1, 0, 0, 0, 0, 0);
        dueSizes("one by one", Edge.lab(-1, 0, 1, 99, "ud", "ud"), 99, 100, 101, 99, 2, 0, 0, 0, 0, 0);
        ClosePacking x = new ClosePacking();
        Check.tell(x, Edge.MOST + ";");
        dueSizes("a fault at the very end", x, 0, 0, 0, 0, 0, 0, 0, 0, 0, 0);
    }

    private static void sizesOfTheTape() {
        ClosePacking x = Edge.none();
        for (int i = 0; i <= 26; i++) {
            Check.due("size(9)", x.size(9), Math.min(500, 20 * i));
            x.feed(0, 0, 0, 0, 0);
        }
        x.lab(501);
        Check.due("size(9) behind lab(501)", x.size(9), 500);
        x.lab(1);
        Check.due("size(9) behind lab(1)", x.size(9), 0);
    }

    private static void sizesOfActsAndImages() {
        ClosePacking x = Edge.fewest();
        for (int i = 0; i <= 18; i++) {
            Check.due("size(7)", x.size(7), Math.min(16, i));
            x.turn(0);
        }
        for (int i = 0; i <= 4; i++) {
            Check.due("size(8)", x.size(8), Math.min(3, i));
            x.image();
        }
        for (int i = 16; i >= -1; i--) {
            Check.due("size(7), undone", x.size(7), Math.max(0, i));
            x.undo();
        }
        Check.due("size(8) behind undo()", x.size(8), 3);
        x.turn(0);
        x.back(0);
        Check.due("size(7) behind back(0)", x.size(7), 0);
        Check.due("size(8) behind back(0)", x.size(8), 3);
        Check.tell(x, Edge.FEWEST);
        Check.due("size(8) of another lab", x.size(8), 0);
    }

    /** "NONE for others" */
    private static void sizeOfOthers() {
        int[] others = {-1, 10, Integer.MAX_VALUE, Integer.MIN_VALUE};
        List<Supplier<ClosePacking>> scenes = List.of(Edge::none, Edge::fewest, Edge::most);
        for (int what : others) {
            for (Supplier<ClosePacking> scene : scenes) {
                ClosePacking x = scene.get();
                x.lab(-1);
                Check.due("size(" + what + ")", x.size(what), -1);
                Check.due("trouble() behind size(" + what + ")", x.trouble(), 2);
            }
        }
    }

    private static void troubleOfEachNumber() {
        ClosePacking x = Edge.none();
        Check.due("0 at first", x.trouble(), 0);
        x.calmest();
        Check.due("1: there is none such", x.trouble(), 1);
        x.lab(-1);
        Check.due("2: a number", x.trouble(), 2);
        Check.tell(x, Edge.FEWEST);
        Check.due("0: it wasn't", x.trouble(), 0);
        x.image();
        x.image();
        x.image();
        x.image();
        Check.due("3: no room", x.trouble(), 3);
        x.lab(0);
        Check.due("4: a FAULT", x.trouble(), 4);
        x.cut(0);
        Check.due("5: not so", x.trouble(), 5);
        x.undo();
        Check.due("6: there is none", x.trouble(), 6);
        Check.due("again", x.trouble(), 6);
    }

    /** Behind each number, one that isn't refused, and each other number. */
    private static void troubleIsOfTheLatest() {
        Edge.Call[] ways = {x -> x.energy(0), x -> x.energy(-1), x -> x.layer(0, 36), x -> x.image(), x -> x.lab(0),
            x -> x.cut(0), x -> x.undo() ? 1 : 0};
        for (int first = 0; first <= 6; first++) {
            for (int then = 0; then <= 6; then++) {
                ClosePacking x = Edge.fewest();
                x.image();
                x.image();
                x.image();
                ways[first].on(x);
                Check.due("trouble()", x.trouble(), first);
                ways[then].on(x);
                Check.due("trouble() behind another", x.trouble(), then);
            }
        }
    }

    /** "of the latest call that may be refused (those of which a number is told here)" */
    private static void troubleOfCallsThatAreNotRefused() {
        for (int trouble = 0; trouble <= 6; trouble += 2) {
            ClosePacking x = Edge.stacks("ud", "uu");
            if (trouble == 2) {
                x.layer(0, -1);
            } else if (trouble == 4) {
                x.lab(0);
            } else if (trouble == 6) {
                x.undo();
            }
            for (int i = 0; i <= 25; i++) {
                x.feed(i, i, i, i, i);
                Check.due("trouble() behind feed", x.trouble(), trouble);
            }
            x.fault();
            x.where();
            x.size(4);
            x.size(-1);
            x.led(0);
            Check.dueNoSuch("led(1)", x, 1);
            Check.due("trouble() behind all of them", x.trouble(), trouble);
        }
    }

    private static void questionsChangeNothing() {
        Check.due("questions asked", QUESTIONS.size(), 42);
        for (Question q : QUESTIONS) {
            ClosePacking x = Edge.most();
            ClosePacking twin = Edge.most();
            Edge.taken(q.name, x, q.call, q.due);
            Edge.taken(q.name + " again", x, q.call, q.due);
            Edge.alike(q.name, x, twin);
        }
    }

    private static void questionsWithoutLab() {
        ask("rowOdds", x -> x.rowOdds(0, false), 0, -1);
        ask("slip", x -> x.slip(0, 0), 0, -1);
        ask("turn", x -> x.turn(0), 0, -1);
        ask("twin", x -> x.twin(0), 0, -1);
        ask("grow", x -> x.grow(0, true), 0, -1);
        ask("cut", x -> x.cut(0), 0, -1);
        ask("image", ClosePacking::image, 0, -1);
        ask("back", x -> x.back(0) ? 1 : 0, 0, 0);
        Supplier<ClosePacking> faulty = () -> {
            ClosePacking x = new ClosePacking();
            Check.tell(x, Edge.MOST + "=");
            x.feed(1, 2, 3, 4, 5);
            return x;
        };
        for (Question q : QUESTIONS) {
            Edge.refused(q.name + " without a lab", Edge::none, q.call, q.withoutLab, 1);
            Edge.refused(q.name + " behind a lab refused", faulty, q.call, q.withoutLab, 1);
        }
        Edge.refused("undo behind a lab refused", faulty, x -> x.undo() ? 1 : 0, 0, 6);
    }

    /** "An object is used for at most 512 calls": the last of them answers as the first. */
    private static void manyCalls() {
        ClosePacking x = new ClosePacking();
        byte[] bytes = Edge.padded(Edge.MOST, 500).getBytes(java.nio.charset.StandardCharsets.ISO_8859_1);
        for (int i = 0; i < 500; i += 20) {
            x.feed(Check.number(bytes, i), Check.number(bytes, i + 4), Check.number(bytes, i + 8),
                    Check.number(bytes, i + 12), Check.number(bytes, i + 16));
        }
        Check.due("lab of most", x.lab(500), 5);
        int calls = 26;
        for (int i = 0; calls < 511; i++, calls++) {
            Question q = QUESTIONS.get(i % 42);
            Check.due(q.name + ", call " + (calls + 1), q.call.on(x), q.due);
        }
        Check.due("call 512", x.twin(0), 1);
        int thrown = 0;
        try {
            new ClosePacking().led(0);
        } catch (NoSuchElementException e) {
            thrown++;
        }
        Check.due("led throws what the document names", thrown, 1);
    }
}
