/** The text of a lab (Terms, I): what is read, and every fault at its place. */
public final class TextTest {
    private static final String HEAD = "lab near 1 second 2 third 3 growth 5;";
    private static final String A = HEAD + "stack a uud";

    public static void main(String[] args) {
        goodTexts();
        form();
        formOfLines();
        names();
        toldAgain();
        bounds();
        many();
        lacks();
        rows();
        firstFromTheLeft();
        Check.end();
    }

    /** The caret of the text is taken out, and shows the place. */
    private static void fault(int number, String marked) {
        int place = marked.indexOf('^');
        String text = marked.substring(0, place) + marked.substring(place + 1);
        ClosePacking x = new ClosePacking();
        Check.due(x, "lab: " + marked, Check.tell(x, text), -1, 4);
        Check.due("fault of " + marked, x.fault(), number);
        Check.due("place of " + marked, x.where(), place);
        Check.due("stacks of " + marked, x.size(4), 0);
    }

    private static ClosePacking good(int stacks, String text) {
        ClosePacking x = new ClosePacking();
        Check.due(x, "lab: " + text, Check.tell(x, text), stacks, 0);
        Check.due("fault of " + text, x.fault(), 0);
        return x;
    }

    private static void goodTexts() {
        good(1, A);
        good(1, "   lab near1second2third3growth5;stack a uud   ");
        good(1, HEAD + "stack a uud;unsure a0;agreed a1 0;agreed a 2  0");
        good(1, HEAD + "stack abcdefgh uuuuuuuuuuuu");
        good(5, HEAD + "stack near ud;stack second ud;stack third ud;stack growth ud;stack ud ud");
        good(2, HEAD + "stack a ud;unsure a 0;stack b ud;agreed b 1 0;unsure b 0");
        good(1, A + ";unsure a 0;unsure a 1;unsure a 002;agreed a 036 036;agreed a 1 0");
        ClosePacking x = good(1, "lab near 99 second - 99 third -0 growth 100;stack a ud");
        Check.due("near", x.size(0), 199);
        Check.due("second", x.size(1), 1);
        Check.due("third", x.size(2), 100);
        Check.due("growth", x.size(3), 100);
        x = good(1, "lab near -   7 second 099 third 00 growth 000;stack a ud");
        Check.due("near -7", x.size(0), 93);
        Check.due("second 099", x.size(1), 199);
        Check.due("growth 000", x.size(3), 0);
        Check.due("more stacks of other lengths", good(2, HEAD + "stack a ud;stack b uuuuuuuuuuud").stack(1, 1), 4094);
    }

    private static void form() {
        fault(1, "^");
        fault(1, "   ^");
        fault(1, "^=");
        fault(1, "^Lab near 1");
        fault(1, "lab^\nnear 1");
        fault(1, "lab near ^\u00ff");
        fault(1, "lab near ^\u0000");
        fault(1, "lab near ^1000 second");
        fault(1, "lab near ^0001 second");
        fault(1, "lab near -^- 1");
        fault(1, "lab ^abcdefghijklm 1");
        fault(1, "lab near 1 second 2 third 3 growth ^- 5;stack a ud");
        fault(1, A + "^,stack b ud");
        fault(1, A + ";^;");
        fault(1, A + ";^");
        fault(1, A + "; ^");
        fault(1, "^;" + A);
        fault(1, "^5");
        fault(1, "^labs near");
        fault(1, "^abcdefghijklmn");
        fault(1, A + ";^near 5");
    }

    private static void formOfLines() {
        fault(1, "lab^");
        fault(1, "lab ^second 2");
        fault(1, "lab near^");
        fault(1, "lab near ^second");
        fault(1, "lab near -^");
        fault(1, "lab near - ^second");
        fault(1, "lab near 1 ^third 3");
        fault(1, "lab near 1 second 2 ^growth 5");
        fault(1, "lab near 1 second 2 third 3 ^second");
        fault(1, "lab near 1 second 2 third 3 growth^");
        fault(1, "lab near 1 second 2 third 3 growth 5 ^stack a ud");
        fault(1, "lab near 1 ^2");
        fault(1, HEAD + "stack^");
        fault(1, HEAD + "stack ^5 ud");
        fault(1, HEAD + "stack a^");
        fault(1, HEAD + "stack a ^;");
        fault(1, HEAD + "stack a ^12");
        fault(1, HEAD + "stack a ud ^ud");
        fault(1, HEAD + "stack a ^uuuuuuuuuuuuu");
        fault(1, A + ";unsure^");
        fault(1, A + ";unsure ^0");
        fault(1, A + ";unsure a^");
        fault(1, A + ";unsure a ^- 1");
        fault(1, A + ";unsure a ^b");
        fault(1, A + ";unsure a 1 ^1");
        fault(1, A + ";agreed a^");
        fault(1, A + ";agreed a 1^");
        fault(1, A + ";agreed a ^uud");
        fault(1, A + ";agreed a 1 ^;");
        fault(1, A + ";agreed a 1 1 ^1");
    }

    private static void names() {
        fault(1, HEAD + "stack ^abcdefghi ud");
        fault(1, HEAD + "stack ^lab ud");
        fault(1, HEAD + "stack ^stack ud");
        fault(1, HEAD + "stack ^unsure ud");
        fault(1, HEAD + "stack ^agreed ud");
        fault(1, A + ";unsure ^lab 0");
        fault(1, A + ";unsure ^abcdefghi 0");
        fault(1, A + ";agreed ^stack 1 0");
        fault(2, A + ";unsure ^b 0");
        fault(2, A + ";unsure ^aa 0");
        fault(2, A + ";agreed ^b 1 0");
        fault(2, A + ";unsure ^b 0;stack b ud");
        fault(2, HEAD + "unsure ^a 0");
        fault(2, HEAD + "stack abcdefgh ud;unsure ^abcdefg 0");
    }

    private static void toldAgain() {
        fault(3, A + ";stack ^a ud");
        fault(3, A + ";stack ^a");
        fault(3, HEAD + "stack b ud;stack abcdefgh ud;stack ^abcdefgh ud");
        fault(3, A + ";unsure a 1;unsure a ^1");
        fault(3, A + ";unsure a 1;unsure a 2;unsure a ^001");
        fault(3, A + ";agreed a 1 0;agreed a ^1 5");
        fault(3, A + ";agreed a 36 0;agreed a 1 0;agreed a ^36");
        fault(3, A + ";^lab near 1");
        fault(3, HEAD + "^lab");
        good(2, A + ";stack b ud;unsure a 1;unsure b 1;agreed a 1 0;agreed b 1 0");
    }

    private static void bounds() {
        fault(4, "lab near ^100");
        fault(4, "lab near - ^100");
        fault(4, "lab near 1 second ^100");
        fault(4, "lab near 1 second 2 third -^100");
        fault(4, "lab near 1 second 2 third 3 growth ^101");
        fault(4, "lab near 1 second 2 third 3 growth ^999");
        fault(4, A + ";unsure a ^3");
        fault(4, HEAD + "stack a uuuuuuuuuuuu;unsure a 11;unsure a ^12");
        fault(4, A + ";agreed a ^0");
        fault(4, A + ";agreed a ^37 1");
        fault(4, A + ";agreed a 36 ^37");
        fault(4, A + ";agreed a 1 0;agreed a 2 ^999");
        good(1, A + ";unsure a 2;agreed a 36 36;agreed a 1 0");
    }

    private static void many() {
        String five = HEAD + "stack a ud;stack b ud;stack c ud;stack e ud;stack f ud";
        fault(5, five + ";^stack g ud");
        fault(5, five + ";^stack");
        good(5, five);
        String four = HEAD + "stack a uuuuu;unsure a 0;unsure a 1;unsure a 2;unsure a 3";
        fault(5, four + ";^unsure a 4");
        fault(5, four + ";^unsure a 0");
        good(1, four);
        String six = A + ";agreed a 1 1;agreed a 2 1;agreed a 3 1;agreed a 4 1;agreed a 5 1;agreed a 6 1";
        fault(5, six + ";^agreed a 7 1");
        good(1, six);
        good(5, five + ";unsure a 0;unsure b 0;unsure c 0;unsure e 0;agreed a 1 1;agreed b 1 1;agreed c 1 1"
                + ";agreed e 1 1;agreed f 1 1;agreed f 2 2");
    }

    private static void lacks() {
        fault(6, "^stack a ud");
        fault(6, " ^stack a ud;" + HEAD);
        fault(6, "^unsure a 0");
        fault(6, "^agreed");
        fault(6, "lab near 1 second 2 third 3 growth 5^");
        fault(6, "lab near 1 second 2 third 3 growth 5   ^");
    }

    private static void rows() {
        fault(7, HEAD + "stack a ^u");
        fault(7, HEAD + "stack a ^d;");
        fault(7, HEAD + "stack a ^uxd");
        fault(7, HEAD + "stack a ^uddddddddddx");
        fault(7, HEAD + "stack a ^xu");
        fault(7, HEAD + "stack a ^stack");
        fault(7, HEAD + "stack a ^a");
        fault(7, HEAD + "stack a ^udb 5");
    }

    private static void firstFromTheLeft() {
        fault(4, "lab near ^100 =");
        fault(6, "^stack a uxd");
        fault(2, A + ";unsure ^b 99;stack b x");
        fault(3, A + ";stack ^a x");
        fault(1, A + ";stack ^abcdefghijkl uxd");
        fault(7, HEAD + "stack a ^uxd;unsure b 0");
        fault(5, HEAD + "stack a ud;stack b ud;stack c ud;stack e ud;stack f ud;^stack lab x");
    }
}
