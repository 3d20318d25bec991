import java.lang.reflect.Constructor;
import java.lang.reflect.Field;
import java.lang.reflect.Method;
import java.lang.reflect.Modifier;
import java.util.NoSuchElementException;
import java.util.Set;
import java.util.TreeSet;
import java.util.stream.Collectors;
import java.util.stream.Stream;

/** "The public face": each constant, constructor and method as it stands there, and nothing else to be seen. */
public final class FaceTest {
    private static final String FACE = """
            public int feed(int,int,int,int,int)
            public int lab(int)
            public int fault()
            public int where()
            public int stack(int,int)
            public int sum(int)
            public int layer(int,int)
            public int hex(int,int)
            public int run(int,int)
            public int agree(int,int)
            public long share(int,boolean)
            public int energy(int)
            public int calmest()
            public int out(int,int)
            public int outs(int)
            public int firstLine(int)
            public int sameLines(int,int)
            public int ground(int)
            public int groundRow(int)
            public int groundMany(int)
            public int groundBest()
            public int kinds(int,int,boolean)
            public int alike(int,int,int)
            public int least(int,int)
            public int manyAlike(int,int)
            public int slips(int,int,int)
            public int slipEnergy(int,int)
            public int weakest(int)
            public int relax(int)
            public int relaxed(int)
            public int pass(int,int)
            public int valley(int)
            public int faultEnergy(int,int)
            public int bestFault(int)
            public int differs(int,int)
            public int fits()
            public int fitAt(int)
            public int could()
            public int surely()
            public int ask()
            public int askLeaves()
            public int judge()
            public long odds(int,int,boolean)
            public long rowOdds(int,boolean)
            public long meanSum(int,boolean)
            public int grown(int,int)
            public int longestRun(int,int)
            public int slip(int,int)
            public int turn(int)
            public int twin(int)
            public int grow(int,boolean)
            public int cut(int)
            public boolean undo()
            public int image()
            public boolean back(int)
            public int led(int) throws java.util.NoSuchElementException
            public int size(int)
            public int trouble()
            """;
    /** A switch takes it only if it is a constant to the compiler. */
    private static final int NONE_TO_THE_COMPILER = noneToTheCompiler(-1);

    public static void main(String[] args) throws Exception {
        theClass();
        methods();
        constants();
        inside();
        objectsByThemselves();
        Check.end();
    }

    private static int noneToTheCompiler(int number) {
        switch (number) {
            case ClosePacking.NONE:
                return 1;
            default:
                return 0;
        }
    }

    private static void theClass() throws Exception {
        Check.due("the class is public and final", ClosePacking.class.getModifiers(), Modifier.PUBLIC | Modifier.FINAL);
        Check.same("its name", ClosePacking.class.getName(), "ClosePacking");
        Check.due("constructors", ClosePacking.class.getDeclaredConstructors().length, 1);
        Constructor<ClosePacking> constructor = ClosePacking.class.getDeclaredConstructor();
        Check.due("the constructor is public", constructor.getModifiers(), Modifier.PUBLIC);
        Check.due("what the constructor throws", constructor.getExceptionTypes().length, 0);
    }

    private static void methods() {
        Set<String> due = new TreeSet<>(FACE.lines().collect(Collectors.toList()));
        Check.due("methods of the document", due.size(), 58);
        Set<String> got = new TreeSet<>();
        Set<String> open = new TreeSet<>();
        Set<String> closed = new TreeSet<>();
        for (Method m : ClosePacking.class.getDeclaredMethods()) {
            if (Modifier.isPrivate(m.getModifiers())) {
                closed.add(m.getName());
            } else if (!m.isSynthetic()) {
                got.add(m.toString().replace("ClosePacking.", ""));
                open.add(m.getName());
            }
        }
        Check.same("the methods", String.join("\n", got), String.join("\n", due));
        closed.retainAll(open);
        Check.same("private methods with the name of a public one", closed.toString(), "[]");
    }

    private static void constants() throws Exception {
        for (Field f : ClosePacking.class.getDeclaredFields()) {
            boolean open = !Modifier.isPrivate(f.getModifiers()) && !f.isSynthetic();
            Check.due(f.getName() + " is to be seen", open, f.getName().equals("NONE"));
        }
        Field none = ClosePacking.class.getDeclaredField("NONE");
        Check.due("NONE is a constant", none.getModifiers(), Modifier.PUBLIC | Modifier.STATIC | Modifier.FINAL);
        Check.due("NONE is an int", none.getType() == int.class, true);
        Check.due("NONE", ClosePacking.NONE, -1);
        Check.due("NONE to the compiler", NONE_TO_THE_COMPILER, 1);
    }

    private static void inside() {
        for (Class<?> c : ClosePacking.class.getDeclaredClasses()) {
            int open = c.getModifiers() & (Modifier.PUBLIC | Modifier.PROTECTED);
            Check.due(c.getName() + " is to be seen", open, 0);
            Check.due(c.getName() + " is static", Modifier.isStatic(c.getModifiers()), true);
        }
    }

    /** What one object is told, asked and acted on another one doesn't know of. */
    private static void objectsByThemselves() {
        ClosePacking x = Edge.most();
        ClosePacking twin = Edge.most();
        ClosePacking y = Edge.fewest();
        ClosePacking yTwin = Edge.fewest();
        ClosePacking none = new ClosePacking();
        y.twin(0);
        y.image();
        y.pass(0, 0);
        y.lab(-1);
        none.feed(1, 2, 3, 4, 5);
        none.lab(20);
        Edge.alike("one object beside others", x, twin);
        y.undo();
        Check.due("images of the second object alone", y.size(8) - yTwin.size(8), 1);
        Check.due("the third object has no lab", none.size(4), 0);
        int thrown = Stream.of(none, yTwin).mapToInt(FaceTest::thrownByLed).sum();
        Check.due("led throws what the document names", thrown, 2);
    }

    private static int thrownByLed(ClosePacking x) {
        try {
            x.led(0);
            return 0;
        } catch (NoSuchElementException e) {
            return 1;
        }
    }
}
