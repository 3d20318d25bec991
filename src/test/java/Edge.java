import java.util.function.Supplier;

/**
 * Objects at their least and at their most, and all that can be seen of an object: for tests of boundary cases.
 * A call that is refused is made on an object, and not on its twin: then the two must look alike.
 */
final class Edge {
    interface Call {
        long on(ClosePacking x);
    }

    static final String HEAD = "lab near 0 second 0 third 0 growth 0;";
    /** One stack of two steps, nothing unsure, nothing agreed. */
    static final String FEWEST = HEAD + "stack a ud";
    /** Five stacks of twelve steps, four unsure ones, six agreed ones. */
    static final String MOST = "lab near 99 second -99 third 99 growth 100"
            + ";stack a uuuuuuuuuuud;stack b uuuuuuuuuuuu;stack c dddddddddddd;stack e udududududud;stack f uudduudduudd"
            + ";unsure a 0;unsure a 11;unsure b 0;unsure f 11"
            + ";agreed a 36 36;agreed a 35 0;agreed a 1 0;agreed b 1 0;agreed c 36 12;agreed e 2 12";

    private Edge() {
    }

    static ClosePacking none() {
        return new ClosePacking();
    }

    static ClosePacking fewest() {
        return Check.told(FEWEST);
    }

    /** 20 acts (16 are kept) by which the rows are again as told, three images, a full tape. */
    static ClosePacking most() {
        ClosePacking x = Check.told(MOST);
        x.twin(0);
        x.image();
        x.twin(0);
        x.cut(1);
        x.slip(2, 0);
        x.image();
        x.grow(1, true);
        x.slip(2, 0);
        x.turn(3);
        x.turn(3);
        x.turn(4);
        x.turn(4);
        x.turn(4);
        x.turn(4);
        x.slip(0, 11);
        x.slip(0, 11);
        x.twin(4);
        x.twin(4);
        x.cut(0);
        x.grow(0, false);
        x.twin(1);
        x.image();
        x.twin(1);
        Check.feed(x, padded(HEAD + "stack z dud;stack y uudu", 500));
        return x;
    }

    /** A lab of which only the stacks count. */
    static ClosePacking stacks(String... rows) {
        StringBuilder text = new StringBuilder(HEAD);
        for (int s = 0; s < rows.length; s++) {
            text.append(s == 0 ? "" : ";").append("stack ").append((char) ('m' + s)).append(' ').append(rows[s]);
        }
        return Check.told(text.toString());
    }

    /** The same with near, second, third, growth told. */
    static ClosePacking lab(int near, int second, int third, int growth, String... rows) {
        StringBuilder text = new StringBuilder("lab near " + near + " second " + second + " third " + third
                + " growth " + growth);
        for (int s = 0; s < rows.length; s++) {
            text.append(";stack ").append((char) ('m' + s)).append(' ').append(rows[s]);
        }
        return Check.told(text.toString());
    }

    static String padded(String text, int length) {
        StringBuilder result = new StringBuilder(text);
        while (result.length() < length) {
            result.append(' ');
        }
        return result.toString();
    }

    /** A call that isn't refused, behind one that was by a number. */
    static void taken(String what, ClosePacking x, Call call, long answer) {
        x.lab(-1);
        Check.due(x, what, call.on(x), answer, 0);
        Check.due("where() behind " + what, x.where(), -1);
    }

    static void refused(String what, Supplier<ClosePacking> scene, Call call, long answer, int trouble) {
        ClosePacking x = scene.get();
        ClosePacking twin = scene.get();
        if (trouble == 1) {
            x.lab(-1);
        } else {
            x.energy(-1);
        }
        Check.due(x, what, call.on(x), answer, trouble);
        Check.due("where() behind " + what, x.where(), -1);
        alike(what, x, twin);
    }

    /** Two objects look alike, but for their trouble. */
    static void alike(String what, ClosePacking x, ClosePacking twin) {
        x.energy(-1);
        twin.energy(-1);
        Check.same(what + ": what can be seen", seen(x), seen(twin));
        Check.same(what + ": what comes back", kept(x), kept(twin));
    }

    /** All that calls tell that change nothing. */
    static String seen(ClosePacking x) {
        StringBuilder all = new StringBuilder();
        all.append("trouble ").append(x.trouble()).append(" where ").append(x.where()).append(" fault ")
                .append(x.fault()).append(" sizes");
        for (int what = 0; what <= 9; what++) {
            all.append(' ').append(x.size(what));
        }
        all.append(" fits ").append(x.fits()).append(' ').append(x.could()).append(' ').append(x.judge());
        return all.append(rows(x)).toString();
    }

    static String rows(ClosePacking x) {
        StringBuilder all = new StringBuilder(" rows");
        for (int s = 0; s < x.size(4); s++) {
            all.append(' ').append(x.stack(s, 0)).append(':').append(x.stack(s, 1));
        }
        return all.toString();
    }

    /** What is undone, what images keep and what the tape tells: all of it is used up. */
    private static String kept(ClosePacking x) {
        StringBuilder all = new StringBuilder();
        for (int i = 0; i < 20 && x.undo(); i++) {
            all.append("undone").append(rows(x)).append('\n');
        }
        for (int i = 0; x.back(i); i++) {
            all.append("image ").append(i).append(rows(x)).append('\n');
        }
        all.append("tape ").append(x.lab(x.size(9))).append(' ').append(x.fault()).append(' ').append(x.where());
        return all.append(rows(x)).toString();
    }
}
