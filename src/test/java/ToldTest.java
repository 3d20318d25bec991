/** Promises 57 to 59: what is told, the trouble of each call, and how little the calls make. */
public final class ToldTest {
    private static final String HEAD = "lab near 12 second -34 third 56 growth 78;";

    public static void main(String[] args) {
        led();
        sizes();
        trouble();
        everyCallWithoutLab();
        face();
        room();
        Check.end();
    }

    private static void led() {
        ClosePacking x = Check.told(HEAD + "stack a uuu;stack b uu;stack c ud;stack e dddd;stack f uuuudddu");
        Check.due("led(0)", x.led(0), 1);
        Check.due("led(1)", x.led(1), 3);
        Check.due("led(2)", x.led(2), 4);
        int[] wrong = {3, -1, 5, Integer.MAX_VALUE, Integer.MIN_VALUE};
        for (int i : wrong) {
            Check.dueNoSuch("led(" + i + ")", x, i);
        }
        x.slip(0, 0);
        Check.due("led(0) now", x.led(0), 0);
        x.undo();
        x.undo();
        Check.dueNoSuch("led(3)", x, 3);
        Check.due("trouble() behind led", x.trouble(), 6);
        Check.dueNoSuch("led(0) without one", Check.told(HEAD + "stack a uuudddud;stack b dddddddddddd"), 0);
        Check.dueNoSuch("led(0) without a lab", new ClosePacking(), 0);
    }

    private static void sizes() {
        ClosePacking x = Check.told(HEAD + "stack a uuu;stack b ud;unsure a 0;agreed b 1 0;agreed b 2 2;agreed a 1 0");
        x.slip(0, 0);
        x.slip(0, 0);
        x.image();
        x.feed(0, 0, 0, 0, 0);
        int[] due = {112, 66, 156, 78, 2, 1, 3, 2, 1, 20};
        for (int what = 0; what < due.length; what++) {
            Check.due("size(" + what + ")", x.size(what), due[what]);
        }
        int[] wrong = {-1, 10, Integer.MAX_VALUE, Integer.MIN_VALUE};
        for (int what : wrong) {
            Check.due("size(" + what + ")", x.size(what), -1);
            Check.due("trouble() behind size", x.trouble(), 0);
            Check.due("size(" + what + ") without a lab", new ClosePacking().size(what), -1);
        }
    }

    private static void trouble() {
        ClosePacking x = Check.told(HEAD + "stack a uuuuuuuuuuuu;stack b ud");
        x.stack(2, 0);
        Check.due("there is none such", x.trouble(), 1);
        x.layer(0, 36);
        Check.due("a number", x.trouble(), 2);
        x.grow(0, true);
        Check.due("no room", x.trouble(), 3);
        x.lab(0);
        Check.due("a fault", x.trouble(), 4);
        Check.due("its place", x.where(), 0);
        x.cut(1);
        Check.due("not so", x.trouble(), 5);
        x.undo();
        Check.due("there is none", x.trouble(), 6);
        x.size(99);
        x.fault();
        x.where();
        x.trouble();
        for (int i = 0; i <= 25; i++) {
            x.feed(0, 0, 0, 0, 0);
        }
        Check.dueNoSuch("led(9)", x, 9);
        Check.due("calls of which no number is told leave it", x.trouble(), 6);
        x.ask();
        Check.due("-2 is no refusal", x.trouble(), 0);
    }

    private static void everyCallWithoutLab() {
        ClosePacking x = new ClosePacking();
        x.undo();
        Check.due(x, "stack", x.stack(0, 0), -1, 1);
        x.undo();
        Check.due(x, "sum", x.sum(0), -100, 1);
        x.undo();
        Check.due(x, "layer", x.layer(0, 99), -1, 1);
        x.undo();
        Check.due(x, "hex", x.hex(0, 99), -1, 1);
        x.undo();
        Check.due(x, "run", x.run(0, 0), -1, 1);
        x.undo();
        Check.due(x, "agree", x.agree(0, 99), -1, 1);
        x.undo();
        Check.due(x, "share", x.share(0, true), -1, 1);
        x.undo();
        Check.due(x, "energy", x.energy(0), -1000000, 1);
        x.undo();
        Check.due(x, "calmest", x.calmest(), -1, 1);
        x.undo();
        Check.due(x, "out", x.out(0, 99), -1, 1);
        x.undo();
        Check.due(x, "outs", x.outs(0), -1, 1);
        x.undo();
        Check.due(x, "firstLine", x.firstLine(0), -1, 1);
        x.undo();
        Check.due(x, "sameLines", x.sameLines(0, 0), -1, 1);
        x.undo();
        Check.due(x, "alike", x.alike(0, 0, 9), -1, 1);
        x.undo();
        Check.due(x, "least", x.least(0, 9), -1, 1);
        x.undo();
        Check.due(x, "manyAlike", x.manyAlike(0, 9), -1, 1);
        x.undo();
        Check.due(x, "pass", x.pass(0, 0), -1000000, 1);
        x.undo();
        Check.due(x, "valley", x.valley(0), -1, 1);
        x.undo();
        Check.due(x, "differs", x.differs(0, 0), -1, 1);
    }

    private static void face() {
        int methods = 0;
        for (java.lang.reflect.Method m : ClosePacking.class.getDeclaredMethods()) {
            boolean open = !java.lang.reflect.Modifier.isPrivate(m.getModifiers());
            methods += open && !m.isSynthetic() ? 1 : 0;
        }
        Check.due("methods of the face", methods, 59 - 1);
        Check.due("NONE", ClosePacking.NONE, -1);
        Check.due("fields of the face", ClosePacking.class.getFields().length, 1);
    }

    /** The dearest calls make nothing: what a run needs, its object's constructor made. */
    private static void room() {
        ClosePacking x = Check.told(HEAD + "stack a uuuuuuuuuuuu;stack b dddddddddddd;unsure a 0;agreed a 1 0");
        dearCalls(x);
        com.sun.management.ThreadMXBean threads =
                (com.sun.management.ThreadMXBean) java.lang.management.ManagementFactory.getThreadMXBean();
        long id = Thread.currentThread().getId();
        long before = threads.getThreadAllocatedBytes(id);
        for (int i = 0; i < 20; i++) {
            dearCalls(x);
        }
        long made = threads.getThreadAllocatedBytes(id) - before;
        Check.due("calls make next to nothing", made < 20000, true);
    }

    private static void dearCalls(ClosePacking x) {
        x.pass(0, 1);
        x.valley(0);
        x.groundBest();
        x.kinds(12, 3, false);
        x.outs(0);
        x.sameLines(0, 1);
        x.fits();
        x.relax(0);
        x.twin(0);
        x.undo();
        x.lab(0);
    }
}
