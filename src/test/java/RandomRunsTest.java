import java.lang.reflect.InvocationTargetException;
import java.lang.reflect.Method;
import java.nio.charset.StandardCharsets;
import java.util.ArrayList;
import java.util.Arrays;
import java.util.Comparator;
import java.util.List;
import java.util.NoSuchElementException;
import java.util.Random;

/** Runs of 512 calls, drawn by fixed seeds: the class answers as the slow model does. */
public final class RandomRunsTest {
    private static final long THROWN = Long.MIN_VALUE;
    private static final List<String> FACE = new ArrayList<>();
    private static final List<String> DEAR = List.of("ground", "groundRow", "groundMany", "groundBest", "kinds",
            "pass", "valley");
    private static final List<String> STACK_SECOND = List.of("sameLines", "alike", "slips", "pass", "differs");
    private static final List<String> ACTS = List.of("slip", "turn", "twin", "grow", "cut");
    private static final int[] EDGES = {-2, -1, 0, 1, 2, 3, 4, 5, 6, 7, 8, 9, 10, 11, 12, 13, 35, 36, 37, 200, 201,
        65536, 65537, Integer.MAX_VALUE, Integer.MIN_VALUE};

    private final Random random;
    private final ClosePacking x = new ClosePacking();
    private final Model model = new Model();

    private RandomRunsTest(long seed) {
        random = new Random(seed);
    }

    public static void main(String[] args) throws Exception {
        Method[] methods = ClosePacking.class.getDeclaredMethods();
        Arrays.sort(methods, Comparator.comparing(Method::getName));
        int runs = args.length > 0 ? Integer.parseInt(args[0]) : 1000;
        List<Method> face = new ArrayList<>();
        for (Method m : methods) {
            if (java.lang.reflect.Modifier.isPublic(m.getModifiers())) {
                face.add(m);
            }
        }
        for (int run = 0; run < runs; run++) {
            new RandomRunsTest(run).run(run, face, run % 8 == 0, run % 8 == 1);
        }
        Check.end();
    }

    private void run(int run, List<Method> face, boolean texts, boolean acts) throws Exception {
        int calls = 0;
        if (random.nextInt(10) != 0) {
            calls += tell(Texts.good(random), run);
        }
        while (calls < 480) {
            if (random.nextInt(texts ? 3 : 60) == 0) {
                String text = Texts.good(random);
                int changes = random.nextInt(4);
                for (int i = 0; i < changes; i++) {
                    text = Texts.changed(text, random);
                }
                calls += tell(text, run);
                continue;
            }
            Method m = face.get(random.nextInt(face.size()));
            if (acts && random.nextInt(6) != 0 && !ACTS.contains(m.getName())) {
                continue;
            }
            if (DEAR.contains(m.getName()) && random.nextInt(8) != 0) {
                continue;
            }
            calls += 4;
            ask(m, argumentsFor(m), run);
        }
    }

    private int tell(String text, int run) throws Exception {
        byte[] bytes = text.getBytes(StandardCharsets.ISO_8859_1);
        Method feed = ClosePacking.class.getMethod("feed", int.class, int.class, int.class, int.class, int.class);
        for (int i = 0; i < bytes.length; i += 20) {
            ask(feed, new Object[] {Check.number(bytes, i), Check.number(bytes, i + 4), Check.number(bytes, i + 8),
                Check.number(bytes, i + 12), Check.number(bytes, i + 16)}, run);
        }
        int shorter = random.nextInt(12) == 0 ? random.nextInt(9) - 4 : 0;
        ask(ClosePacking.class.getMethod("lab", int.class), new Object[] {bytes.length + shorter}, run);
        return bytes.length / 20 + 2;
    }

    private Object[] argumentsFor(Method m) {
        Class<?>[] types = m.getParameterTypes();
        Object[] arguments = new Object[types.length];
        for (int i = 0; i < types.length; i++) {
            boolean stack = i == 0 || i == 1 && STACK_SECOND.contains(m.getName());
            int stacks = Math.max(1, model.size(4));
            int small = random.nextInt(stack ? stacks : 13) - (random.nextInt(10) == 0 ? 1 : 0);
            int number = random.nextInt(12) == 0 ? EDGES[random.nextInt(EDGES.length)] : small;
            arguments[i] = types[i] == boolean.class ? (Object) random.nextBoolean() : (Object) number;
        }
        String name = m.getName();
        if (name.equals("grown") || name.equals("longestRun")) {
            arguments[0] = random.nextInt(10) == 0 ? arguments[0] : (Object) random.nextInt(65537);
            arguments[1] = random.nextInt(3) == 0 ? (Object) random.nextInt(210) : arguments[1];
        }
        if (name.equals("fitAt") || name.equals("size") || name.equals("odds")) {
            arguments[0] = random.nextInt(12) - 1;
        }
        if (name.startsWith("ground") && types.length > 0 || name.equals("kinds") || name.equals("meanSum")) {
            arguments[0] = random.nextInt(4) == 0 ? arguments[0] : (Object) random.nextInt(13);
        }
        if ((name.equals("layer") || name.equals("hex") || name.equals("agree") || name.equals("out"))
                && random.nextInt(2) == 0) {
            arguments[1] = random.nextInt(38);
        }
        int how = types.length - (name.equals("kinds") ? 2 : 1);
        if (List.of("kinds", "alike", "least", "manyAlike", "slips").contains(name) && random.nextInt(9) > 0) {
            arguments[how] = random.nextInt(4);
        }
        return arguments;
    }

    private void ask(Method m, Object[] arguments, int run) throws Exception {
        Method other = Model.class.getDeclaredMethod(m.getName(), m.getParameterTypes());
        String what = "run " + run + ": " + m.getName() + Arrays.toString(arguments);
        long want = answer(other, model, arguments);
        Check.due(what, answer(m, x, arguments), want);
        Check.due(what + " trouble", x.trouble(), model.trouble());
        Check.due(what + " where", x.where(), model.where());
        Check.due(what + " fault", x.fault(), model.fault());
    }

    private static long answer(Method m, Object on, Object[] arguments) throws Exception {
        try {
            Object answer = m.invoke(on, arguments);
            return answer instanceof Boolean ? ((Boolean) answer ? 1 : 0) : ((Number) answer).longValue();
        } catch (InvocationTargetException e) {
            if (e.getCause() instanceof NoSuchElementException && m.getName().equals("led")) {
                return THROWN;
            }
            throw e;
        }
    }
}
