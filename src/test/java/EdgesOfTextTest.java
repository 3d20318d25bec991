/** Boundary cases of Terms I, the text of a lab, sentence by sentence. */
public final class EdgesOfTextTest {
    private static final String HEAD = Edge.HEAD;
    private static final String A = HEAD + "stack a uud";

    public static void main(String[] args) {
        blanksPartTokens();
        bytesThatBeginNoToken();
        wordsOfOneToTwelve();
        wholesOfOneToThree();
        numbers();
        growth();
        labAheadOfAllOthers();
        rows();
        upToFiveStacks();
        unsurePlaces();
        upToFourUnsure();
        agreedDistances();
        upToSixAgreed();
        names();
        namesToldOnceAheadOfUse();
        theEnd();
        linesOfOneSignAlone();
        theLeastNumberOfOnePlace();
        theFirstFromTheLeft();
        Check.end();
    }

    /** The caret is taken out, and shows the place. The lab ahead stays, and the tape is empty then. */
    private static void fault(int number, String marked) {
        int place = marked.indexOf('^');
        String text = marked.substring(0, place) + marked.substring(place + 1);
        ClosePacking x = Edge.stacks("ud", "uuu");
        Check.due(x, "lab: " + marked, Check.tell(x, text), -1, 4);
        Check.due("where() of " + marked, x.where(), place);
        Check.due("fault() of " + marked, x.fault(), number);
        Check.due("the lab ahead of " + marked, x.size(4), 2);
        Check.due("its last row ahead of " + marked, x.stack(1, 1), 7);
        Check.due("the tape behind " + marked, x.size(9), 0);
    }

    private static ClosePacking good(int stacks, String text) {
        ClosePacking x = new ClosePacking();
        Check.due(x, "lab: " + text, Check.tell(x, text), stacks, 0);
        Check.due("fault() of " + text, x.fault(), 0);
        Check.due("where() of " + text, x.where(), -1);
        return x;
    }

    /** "blanks, 32, part TOKENS and mean nothing else" */
    private static void blanksPartTokens() {
        good(1, " " + A);
        good(1, A + " ");
        good(1, "lab near -  0 second - 0third0growth0;stack a uud");
        good(1, "lab  near  0  second  0  third  0  growth  0  ;  stack  a  uud");
        good(2, A + ";stack b ud;unsure a0;unsure b1;agreed a1 0;agreed b36 2");
        fault(1, "^la b near 0");
        fault(1, "lab ^ne ar 0");
        fault(1, "lab near 0 ^0 second");
        fault(7, HEAD + "stack a ^u ud");
        fault(1, HEAD + "stack a uu ^d");
        fault(1, HEAD + "^st ack a ud");
        fault(1, A + ";agreed a 1 0 ^0");
    }

    /** Those next to the signs that tokens are of, the least and the greatest one. */
    private static void bytesThatBeginNoToken() {
        int[] wrong = {0, 9, 10, 13, 31, 33, 44, 46, 47, 58, 60, 64, 'A', 'U', 'Z', 91, 96, 123, 127, 128, 160, 255};
        for (int sign : wrong) {
            fault(1, "^" + (char) sign + A);
            fault(1, "lab^" + (char) sign + "near 0 second 0 third 0 growth 0;stack a uud");
            fault(1, A + "^" + (char) sign);
            fault(1, A + "^" + (char) sign + ";stack b ud");
        }
        String all = "a^z";
        fault(7, HEAD + "stack " + all.replace("^", "") + " ^az");
        good(1, HEAD + "stack az ud");
    }

    /** "WORDS of 1 to 12 small letters that stand together" */
    private static void wordsOfOneToTwelve() {
        good(1, HEAD + "stack z uduuuuuuuudd");
        fault(7, HEAD + "stack a ^abcdefghijkl");
        fault(1, HEAD + "stack a ^abcdefghijklm");
        fault(1, HEAD + "stack a ^uuuuuuuuuuuuu");
        fault(1, HEAD + "stack a ^uuuuuuuuuuuuuuuuuuuuuuuuuu");
        fault(1, "^l");
        fault(1, "^abcdefghijkl");
        fault(1, "^abcdefghijklm");
        fault(1, A + ";^abcdefghijklm");
        // Words of which a code of too few bits takes one for another.
        fault(2, HEAD + "stack aaaaaaaa ud;unsure ^aaaaaaa 0");
        fault(2, HEAD + "stack a ud;unsure ^b 0");
        fault(1, "^aaaaaaaaalab near 0");
        fault(1, "^labaaaaaaaaa near 0");
    }

    /** "WHOLES of 1 to 3 digits that do" */
    private static void wholesOfOneToThree() {
        Check.due("0", good(1, "lab near 0 second 0 third 0 growth 9;stack a ud").size(3), 9);
        Check.due("00", good(1, "lab near 00 second 00 third 00 growth 09;stack a ud").size(3), 9);
        Check.due("099", good(1, "lab near 099 second 000 third 0 growth 009;stack a ud").size(0), 199);
        fault(1, "lab near ^0000 second");
        fault(1, "lab near ^0099 second");
        fault(1, "lab near ^1000 second");
        fault(1, "lab near ^9999999999999999 second");
        fault(4, "lab near ^999 second");
        fault(1, A + ";unsure a ^0000");
        fault(1, A + ";agreed a ^0001 0");
        fault(1, A + ";agreed a 1 ^0000");
        fault(1, "^0lab near 0");
        good(1, "lab near 0second 0third 0growth 0;stack a ud");
    }

    /** "NUMBER: WHOLE, or - WHOLE; WHOLES 0 .. 99" */
    private static void numbers() {
        String[] told = {"0", "-0", "- 0", "1", "-1", "98", "99", "-98", "-99", "-  99", "-099"};
        int[] due = {0, 0, 0, 1, -1, 98, 99, -98, -99, -99, -99};
        for (int i = 0; i < told.length; i++) {
            ClosePacking x = good(1, "lab near " + told[i] + " second 3 third 4 growth 5;stack a ud");
            Check.due("near " + told[i], x.size(0), due[i] + 100);
            Check.due("second beside it", x.size(1), 103);
            x = good(1, "lab near 2 second " + told[i] + " third 4 growth 5;stack a ud");
            Check.due("second " + told[i], x.size(1), due[i] + 100);
            x = good(1, "lab near 2 second 3 third " + told[i] + " growth 5;stack a ud");
            Check.due("third " + told[i], x.size(2), due[i] + 100);
            Check.due("near beside it", x.size(0), 102);
        }
        fault(4, "lab near ^100 second 0 third 0 growth 0;stack a ud");
        fault(4, "lab near -^100 second 0 third 0 growth 0;stack a ud");
        fault(4, "lab near 0 second ^100 third 0 growth 0;stack a ud");
        fault(4, "lab near 0 second - ^100 third 0 growth 0;stack a ud");
        fault(4, "lab near 0 second 0 third ^100 growth 0;stack a ud");
        fault(4, "lab near 0 second 0 third -^100 growth 0;stack a ud");
        fault(1, "lab near -^-1 second");
        fault(1, "lab near 1^- second");
        fault(1, "lab near - ^second");
        fault(1, "lab near - ^; second");
        fault(1, "lab near ^;5 second");
        // WHOLES that are as much as the signs - and ; are.
        ClosePacking x = good(1, "lab near 45 second 59 third -45 growth 45;stack a ud");
        Check.due("near 45", x.size(0), 145);
        Check.due("second 59", x.size(1), 159);
        Check.due("third -45", x.size(2), 55);
        fault(1, "lab near ^0045 5 second");
        fault(1, A + " ^0059 stack b ud");
        fault(1, A + " ^59 stack b ud");
        fault(1, "lab near ^; 5 second");
    }

    /** "growth 0 .. 100 in a hundred" */
    private static void growth() {
        Check.due("least growth", good(1, "lab near 0 second 0 third 0 growth 0;stack a ud").size(3), 0);
        Check.due("greatest growth", good(1, "lab near 0 second 0 third 0 growth 100;stack a ud").size(3), 100);
        fault(4, "lab near 0 second 0 third 0 growth ^101;stack a ud");
        fault(4, "lab near 0 second 0 third 0 growth ^999;stack a ud");
        fault(1, "lab near 0 second 0 third 0 growth ^-1;stack a ud");
        fault(1, "lab near 0 second 0 third 0 growth ^-0;stack a ud");
    }

    /** "ahead of all others", "any LINE ahead of the lab; at its WORD", "a second lab: at that WORD" */
    private static void labAheadOfAllOthers() {
        fault(6, "^stack");
        fault(6, "^stack a ud;" + HEAD);
        fault(6, "  ^unsure a 0;" + HEAD);
        fault(6, "^agreed a 1 0;" + HEAD);
        fault(6, "^agreed");
        fault(3, HEAD + "^lab");
        fault(3, HEAD + "^lab near 100");
        fault(3, A + "; ^lab near 0 second 0 third 0 growth 0");
        fault(3, HEAD + "^" + A);
    }

    /** "ROW: a WORD of 2 to 12 letters, u for a step up, d for one down" */
    private static void rows() {
        String[] told = {"uu", "ud", "du", "dd", "uuuuuuuuuuuu", "dddddddddddd", "uuuuuuuuuuud", "udddddddddd"};
        int[] due = {3, 2, 1, 0, 4095, 0, 4094, 1024};
        for (int i = 0; i < told.length; i++) {
            ClosePacking x = good(1, HEAD + "stack a " + told[i]);
            Check.due("steps of " + told[i], x.stack(0, 0), told[i].length());
            Check.due("row of " + told[i], x.stack(0, 1), due[i]);
        }
        String[] none = {"u", "d", "a", "lab", "stack", "unsure", "agreed", "ut", "vu", "ec", "uda", "uuuuuuuuuuux",
            "xuuuuuuuuuuu", "uuuuuxuuuuuu"};
        for (String row : none) {
            fault(7, HEAD + "stack a ^" + row);
            fault(7, HEAD + "stack a ^" + row + ";stack b ud");
        }
        fault(1, HEAD + "stack a ^uuuuuuuuuuuud");
        fault(1, HEAD + "stack a ^0");
        fault(1, HEAD + "stack a ^;");
        fault(1, HEAD + "stack a ^-");
        fault(1, HEAD + "stack a ^=");
        fault(1, HEAD + "stack a^");
        fault(1, HEAD + "stack a ^UD");
    }

    /** "up to 5" and "MANY ... at its first WORD" */
    private static void upToFiveStacks() {
        String text = HEAD + "stack a ud";
        good(1, text);
        String[] more = {"b", "c", "e", "f"};
        for (int s = 0; s < more.length; s++) {
            text += ";stack " + more[s] + " uud";
            good(s + 2, text);
        }
        fault(5, text + ";^stack g ud");
        fault(5, text + ";^stack a ud");
        fault(5, text + ";^stack 5");
        fault(5, text + ";^stack");
        good(5, text + ";unsure f 2;agreed f 36 9");
    }

    /** "a place of its ROW, 0 the first; each two once" */
    private static void unsurePlaces() {
        Check.due("the first place", good(1, A + ";unsure a 0").size(5), 1);
        Check.due("the last place of three", good(1, A + ";unsure a 2").size(5), 1);
        fault(4, A + ";unsure a ^3");
        fault(4, HEAD + "stack a ud;unsure a ^2");
        good(1, HEAD + "stack a ud;unsure a 1");
        good(1, HEAD + "stack a uuuuuuuuuuuu;unsure a 11");
        fault(4, HEAD + "stack a uuuuuuuuuuuu;unsure a ^12");
        fault(4, A + ";unsure a ^999");
        fault(4, HEAD + "stack a uuuu;stack b ud;unsure a 3;unsure b ^2");
        fault(1, A + ";unsure a ^-1");
        fault(1, A + ";unsure a 0 ^0");
        fault(1, A + ";unsure a^");
        fault(1, A + ";unsure a ^;");
        fault(3, A + ";unsure a 0;unsure a ^0");
        fault(3, A + ";unsure a 2;unsure a 1;unsure a 0;unsure a ^2");
        fault(3, A + ";unsure a 1;unsure a ^01");
        Check.due("the same place of two stacks", good(2, A + ";stack b ud;unsure a 1;unsure b 1;unsure a 0;unsure b 0")
                .size(5), 4);
    }

    private static void upToFourUnsure() {
        String text = HEAD + "stack a uuuuu";
        for (int k = 0; k < 4; k++) {
            text += ";unsure a " + k;
            Check.due("unsure ones", good(1, text).size(5), k + 1);
        }
        fault(5, text + ";^unsure a 4");
        fault(5, text + ";^unsure a 0");
        fault(5, text + ";^unsure b 0");
        fault(5, text + ";^unsure");
        good(2, text + ";stack b ud;agreed b 1 0");
    }

    /** "by a distance, 1 .. 36; 0 .. 36; each distance of a STACK once" */
    private static void agreedDistances() {
        Check.due("the least of both", good(1, A + ";agreed a 1 0").size(6), 1);
        Check.due("the greatest of both", good(1, A + ";agreed a 36 36").size(6), 1);
        fault(4, A + ";agreed a ^0 0");
        fault(4, A + ";agreed a ^37 0");
        fault(4, A + ";agreed a ^999 0");
        fault(4, A + ";agreed a ^0");
        fault(4, A + ";agreed a 1 ^37");
        fault(4, A + ";agreed a 36 ^999");
        fault(1, A + ";agreed a ^-1 0");
        fault(1, A + ";agreed a 1 ^-1");
        fault(1, A + ";agreed a^");
        fault(1, A + ";agreed a 1^");
        fault(1, A + ";agreed a 1 ^;");
        fault(1, A + ";agreed a ^ud 1");
        fault(1, A + ";agreed a 1 0^-");
        fault(3, A + ";agreed a 1 0;agreed a ^1 1");
        fault(3, A + ";agreed a 36 0;agreed a ^036 0");
        fault(3, A + ";agreed a 36 0;agreed a 1 0;agreed a 2 0;agreed a ^36");
        Check.due("the same distance of two stacks", good(2, A + ";stack b ud;agreed a 5 0;agreed b 5 0").size(6), 2);
        Check.due("a place and a distance alike", good(1, A + ";unsure a 1;agreed a 1 0").size(6), 1);
    }

    private static void upToSixAgreed() {
        String text = A;
        for (int m = 1; m <= 6; m++) {
            text += ";agreed a " + m + " 0";
            Check.due("agreed ones", good(1, text).size(6), m);
        }
        fault(5, text + ";^agreed a 7 0");
        fault(5, text + ";^agreed a 1 0");
        fault(5, text + ";^agreed");
        good(2, text + ";stack b ud;unsure b 0");
        good(5, Edge.MOST);
    }

    /** "NAMES are WORDS of 1 to 8 letters (a longer one is FAULT 1) but lab, stack, unsure, agreed" */
    private static void names() {
        String[] taken = {"a", "z", "abcdefgh", "zzzzzzzz", "u", "d", "ud", "near", "second", "third", "growth",
            "la", "labs", "stac", "stacks", "unsur", "unsured", "agree", "agreeds"};
        for (String name : taken) {
            good(1, HEAD + "stack " + name + " uud;unsure " + name + " 0;agreed " + name + " 1 0");
        }
        String[] wrong = {"abcdefghi", "abcdefghijkl", "abcdefghijklm", "lab", "stack", "unsure", "agreed", "0", ";",
            "-", "A"};
        for (String name : wrong) {
            fault(1, HEAD + "stack ^" + name + " uud");
            fault(1, A + ";unsure ^" + name + " 0");
            fault(1, A + ";agreed ^" + name + " 1 0");
        }
    }

    /** "each told once, ahead of its use" */
    private static void namesToldOnceAheadOfUse() {
        fault(3, A + ";stack ^a uud");
        fault(3, A + ";stack b ud;stack c ud;stack e ud;stack ^a ud");
        fault(3, A + ";stack b ud;stack c ud;stack e ud;stack ^e ud");
        fault(2, A + ";unsure ^b 0;stack b ud");
        fault(2, A + ";agreed ^b 1 0;stack b ud");
        fault(2, HEAD + "unsure ^a 0;stack a ud");
        fault(2, HEAD + "agreed ^a 1 0;stack a ud");
        fault(2, HEAD + "stack abcdefgh ud;unsure ^abcdefg 0");
        fault(2, HEAD + "stack abcdefg ud;agreed ^abcdefgh 1 0");
        good(2, A + ";unsure a 0;stack b ud;unsure b 0;agreed b 1 0;agreed a 1 0");
    }

    /** "TOKEN with which no LAB goes on (the end: its place)": the text ends behind each of its tokens. */
    private static void theEnd() {
        String[] tokens = {"lab ", "near ", "-", "1 ", "second ", "2 ", "third ", "3 ", "growth ", "4", ";", "stack ",
            "a ", "uud", ";", "unsure ", "a ", "2", ";", "agreed ", "a ", "36 ", "9"};
        Check.due("the tokens of all sorts of lines", tokens.length, 23);
        String text = "";
        for (int i = 0; i < tokens.length; i++) {
            text += tokens[i];
            if (i == 9) {
                fault(6, text + "^");
                fault(6, text + "   ^");
            } else if (i == 13 || i == 17 || i == 22) {
                good(1, text);
                good(1, text + "   ");
            } else {
                fault(1, text + "^");
                fault(1, text.trim() + "^");
            }
        }
        fault(1, "^");
        fault(1, " ^");
        fault(1, Edge.padded("", 500) + "^");
        fault(6, Edge.padded("lab near 0 second 0 third 0 growth 0", 500) + "^");
    }

    /** "LINE {; LINE}": no line is empty, and none stands behind another one without a sign. */
    private static void linesOfOneSignAlone() {
        fault(1, "^;");
        fault(1, "^;" + A);
        fault(1, HEAD + "^;stack a ud");
        fault(1, A + ";^;stack b ud");
        fault(1, A + ";^");
        fault(1, A + "  ;  ^");
        fault(1, A + " ^stack b ud");
        fault(1, A + ";unsure a 0 ^unsure a 1");
        fault(1, A + ";agreed a 1 0 ^agreed a 2 0");
        fault(1, A + "^-");
        fault(1, A + " ^0");
        fault(1, "lab near 0 second 0 third 0 growth 0 ^stack a ud");
        fault(1, "lab near 0 second 0 third 0 growth 0 ^lab");
    }

    /** "of one place the least number" */
    private static void theLeastNumberOfOnePlace() {
        // 1 ahead of 6, at the end: no stack.
        fault(1, HEAD + "^");
        fault(1, "lab near 0 second 0 third 0 growth^");
        // 1 ahead of 2 and 3: a name of none told.
        fault(1, A + ";unsure ^abcdefghi 0");
        fault(1, A + ";agreed ^stack 1 0");
        // 1 ahead of 7: thirteen letters are no word.
        fault(1, HEAD + "stack a ^xxxxxxxxxxxxx");
        // 1 ahead of 4: four digits are no whole.
        fault(1, A + ";unsure a ^9999");
        // 3, and neither 1 nor 6: a second lab.
        fault(3, HEAD + "^lab");
    }

    /** "the first that is met from the left" */
    private static void theFirstFromTheLeft() {
        fault(4, "lab near ^100 second 100");
        fault(1, "lab ^second 100");
        fault(6, "^stack a u;=");
        fault(3, A + ";stack ^a u");
        fault(7, HEAD + "stack a ^u;stack a ud");
        fault(2, A + ";unsure ^b 3");
        fault(4, A + ";unsure a ^3;unsure b 0");
        fault(2, A + ";agreed ^b 37 37");
        fault(4, A + ";agreed a ^37 37");
        fault(3, A + ";agreed a 1 0;agreed a ^1 37");
        fault(5, HEAD + "stack a ud;stack b ud;stack c ud;stack e ud;stack f ud;^stack a u");
        fault(4, A + ";agreed a 1 ^37=");
        fault(1, A + "^=;stack a ud");
    }
}
