/** The boundary cases of THE TEXT (Terms) and of promises 8 to 12: one part for each sentence, both sides. */
public final class TextEdgesTest {
    private static final int LEAST = Integer.MIN_VALUE, MOST = Integer.MAX_VALUE;
    private static final String LOOKS_24 = "abcdefabcdefabcdefabcdef";
    private static final Due due = new Due();

    public static void main(String[] args) {
        bytesAre0To127();
        bytesAre80AtMost();
        badComesAheadOfFull();
        clearTellsHowMany();
        eachByteAtEachPlace();
        aRowMayHaveNoParts();
        blanksMayStandAnywhere();
        only32IsABlank();
        lettersAreAToF();
        figuresAre1To9();
        looksAre24AtMost();
        threeWithinOneAnother();
        ofALoopItsFigure();
        theFirstByteThatCanNotStand();
        theLengthIfItEndsTooEarly();
        faultsAtBothEndsOfTheText();
        byAFaultAllStays();
        readsAgainAndAgain();
        toldWhat0To4();
        toldAtItsLeastAndMost();
        toldOfTheLastReadAlone();
        ofEachLook();
        ofWhat0To5();
        figureAroundOrNone();
        due.end("TextEdgesTest");
    }

    private static String times(int n, String part) {
        return part.repeat(n);
    }

    private static int readsOf(String text) {
        return Due.read(new CacheBounds(), text);
    }

    // Promise 8: "A byte (0 .. 127) comes behind THE TEXT: how many it has. BAD"
    private static void bytesAre0To127() {
        CacheBounds x = new CacheBounds();
        due.is("8, type(0)", x.type(0), 1);
        due.is("8, type(127)", x.type(127), 2);
        due.is("8, type(1)", x.type(1), 3);
        due.is("8, type(126)", x.type(126), 4);
        for (int c : new int[] {-1, 128, -128, 255, 256 + 'a', LEAST, MOST}) {
            due.is("8, type(" + c + ")", x.type(c), -2);
            due.is("8, THE TEXT stays by type(" + c + ")", x.count(3), 4);
        }
        due.is("8, each BAD counts", x.count(0), 7);
        CacheBounds y = new CacheBounds();
        y.type('a');
        y.type(128 + 'b');
        y.type('c');
        due.is("8, what was refused is not in THE TEXT", y.reads(), 2);
        due.is("8, the second byte", y.of(1, 0), 2);
    }

    // Terms, THE TEXT: "80 bytes at most"; promise 8: "FULL: 80."
    private static void bytesAre80AtMost() {
        CacheBounds x = new CacheBounds();
        for (int i = 1; i <= 80; i++) {
            due.is("8, byte " + i, x.type(i % 2 == 0 ? ' ' : '.'), i);
        }
        due.is("8, nothing was refused", x.count(2), 0);
        due.is("8, byte 81", x.type('a'), -4);
        due.is("8, byte 81 again", x.type(0), -4);
        due.is("8, byte 81 once more", x.type(127), -4);
        due.is("8, each FULL counts", x.count(2), 3);
        due.is("8, it counts as nothing else", x.count(0) + x.count(1), 0);
        due.is("8, it still has 80", x.count(3), 80);
        due.is("8, byte 81 is not read", x.reads(), 0);
        due.is("8, 40 of work", x.upper(), 40);
        due.is("8, clear() of 80", x.clear(), 80);
        due.is("8, there is room again", x.type('a'), 1);
        due.is("8, what was cleared is gone", x.reads(), 1);
    }

    // Terms, refused calls: "the first of: BAD .. NO .. FULL"
    private static void badComesAheadOfFull() {
        CacheBounds x = new CacheBounds();
        for (int i = 0; i < 80; i++) {
            x.type('.');
        }
        due.is("8, BAD ahead of FULL", x.type(128), -2);
        due.is("8, BAD ahead of FULL below", x.type(-1), -2);
        due.is("8, BAD counts", x.count(0), 2);
        due.is("8, FULL counts not", x.count(2), 0);
        due.is("8, a right byte is FULL", x.type(127), -4);
        due.is("8, FULL counts", x.count(2), 1);
    }

    // Promise 9: "how many it had"
    private static void clearTellsHowMany() {
        for (int n : new int[] {0, 1, 2, 79, 80}) {
            CacheBounds x = new CacheBounds();
            for (int i = 0; i < n; i++) {
                x.type('e');
            }
            due.is("9, clear() of " + n, x.clear(), n);
            due.is("9, it has none", x.count(3), 0);
            due.is("9, clear() of none", x.clear(), 0);
            due.is("9, an empty TEXT", x.reads(), 0);
        }
        CacheBounds y = due.with("ab");
        y.clear();
        due.is("9, THE PROGRAM stays", y.told(0), 2);
    }

    /** Which of all bytes can stand behind a beginning: a fault at its place says that it can't. */
    private static void canStand(String beginning, String signs) {
        for (int c = 0; c < 128; c++) {
            CacheBounds x = new CacheBounds();
            for (int i = 0; i < beginning.length(); i++) {
                x.type(beginning.charAt(i));
            }
            x.type(c);
            int place = beginning.length();
            boolean stands = x.reads() != -10 - place;
            due.holds("10, byte " + c + " behind '" + beginning + "'", stands == signs.indexOf(c) >= 0);
        }
    }

    // Terms, THE TEXT: what a ROW, a choice, a LOOP are, by each byte
    private static void eachByteAtEachPlace() {
        String looks = "abcdef", figures = "123456789", row = looks + ". ", any = row + "(" + figures;
        canStand("", any);
        canStand("a", any);
        canStand("(|)1[].", any);
        canStand("(", any + "|");
        canStand("(a", any + "|");
        canStand("(|", any + ")");
        canStand("(a|b", any + ")");
        canStand("1", "[ ");
        canStand("9 ", "[ ");
        canStand("1[", any + "]");
        canStand("1[.", any + "]");
        canStand("(1[", any + "]");
        canStand("1[(", any + "|");
        canStand("1[(|", any + ")");
        canStand("1[(|)", any + "]");
        canStand("(|1[]", any + ")");
        canStand("(((", row + "|");
        canStand("(((|", row + ")");
        canStand("(((|)", any + "|");
        canStand("1[1[1[", row + "]");
        canStand("1[1[1[]", any + "]");
        canStand("1[(2[", row + "]");
        canStand("1[(2", "[ ");
        canStand(LOOKS_24, ". (" + figures);
        canStand(LOOKS_24.substring(1), any);
        canStand("1[" + LOOKS_24, ". ](" + figures);
        canStand("(((|" + LOOKS_24, ". )");
        canStand("1[1[1[" + LOOKS_24, ". ]");
        canStand(LOOKS_24 + "1", "[ ");
    }

    // Terms, THE TEXT: "a ROW of PARTS (none, too)"
    private static void aRowMayHaveNoParts() {
        due.is("10, none at all", readsOf(""), 0);
        due.is("10, none in both", readsOf("(|)"), 0);
        due.is("10, none in the first", readsOf("(|a)"), 1);
        due.is("10, none in the second", readsOf("(a|)"), 1);
        due.is("10, none in a LOOP", readsOf("9[]"), 0);
        due.is("10, none within", readsOf("1[(1[]|)]"), 0);
        CacheBounds x = due.with("ab");
        due.is("10, an empty TEXT tells an empty ROW", Due.read(x, ""), 0);
        due.is("10, no LOOKS", x.told(0), 0);
        due.is("10, it takes nothing", x.upper() + x.worst(), 0);
    }

    // Terms, THE TEXT: "Blanks (32) may stand anywhere"
    private static void blanksMayStandAnywhere() {
        String text = "a(b|c.)3[d]f";
        for (int at = 0; at <= text.length(); at++) {
            for (String blanks : new String[] {" ", "   "}) {
                CacheBounds x = due.with(text.substring(0, at) + blanks + text.substring(at));
                due.is("10, LOOKS with blanks at " + at, x.told(0), 5);
                due.is("10, UPPER with blanks at " + at, x.upper(), due.with(text).upper());
                due.is("10, WAYS with blanks at " + at, x.many(), 8);
            }
        }
        due.is("10, blanks alone", readsOf("   "), 0);
        CacheBounds x = due.with(times(80, " "));
        due.is("10, 80 blanks take nothing", x.worst(), 0);
        due.is("10, 80 blanks are bytes", x.count(3), 80);
        due.is("10, 80 blanks are one way", x.many(), 1);
    }

    private static void only32IsABlank() {
        for (int c : new int[] {0, 9, 10, 13, 31, 33, 127}) {
            due.is("10, byte " + c, readsOf("a" + (char) c + "b"), -11);
            due.is("10, byte " + c + " behind a figure", readsOf("2" + (char) c + "[]"), -11);
        }
        due.is("10, byte 32", readsOf("a" + (char) 32 + "b"), 2);
    }

    // "0 .. 5 (told a .. f)"
    private static void lettersAreAToF() {
        for (int line = 0; line <= 5; line++) {
            CacheBounds x = due.with("" + (char) ('a' + line));
            due.is("12, the LINE of " + line, x.of(0, 0), line);
            due.is("11, its bit", x.told(4), 1 << line);
            x.runs(0);
            due.is("22, it is looked at", x.held(0), line);
        }
        for (char c : new char[] {'a' - 1, 'g', 'A', 'F', 'z'}) {
            due.is("10, '" + c + "'", readsOf("a" + c), -11);
        }
    }

    // Terms, THE TEXT: "a figure 1 .. 9 and [ ROW ] (a LOOP: done 0 to that many times)"
    private static void figuresAre1To9() {
        for (int figure = 1; figure <= 9; figure++) {
            CacheBounds x = due.with(figure + "[.](|.)");
            for (int done = 0; done <= 10; done++) {
                int times = Math.min(done, figure);
                due.is("a LOOP of " + figure + " by " + done + " ones", x.runs((1 << done) - 1),
                        times + (done > figure ? 1 : 0));
                due.is("bits asked", x.ran(2), (times < figure ? times + 1 : figure) + 1);
            }
            due.is("so many ways", x.many(), 2 * (figure + 1));
            due.is("at most", x.worst(), figure + 1);
            due.is("at least", x.best(), 0);
        }
        for (String wrong : new String[] {"0[.]", ":[.]", "/[.]", "[.]"}) {
            due.is("10, '" + wrong + "'", readsOf(wrong), -10);
        }
        due.is("10, one figure alone", readsOf("10[.]"), -11);
        due.is("10, two figures", readsOf("19[.]"), -11);
        due.is("10, two figures with a blank", readsOf("1 9[.]"), -12);
    }

    // Terms, THE TEXT: "At most 24 LOOKS"; "a 25th LOOK"
    private static void looksAre24AtMost() {
        due.is("10, 23", readsOf(LOOKS_24.substring(1)), 23);
        due.is("10, 24", readsOf(LOOKS_24), 24);
        due.is("10, a 25th", readsOf(LOOKS_24 + "a"), -34);
        due.is("10, a 26th counts not", readsOf(LOOKS_24 + "ab"), -34);
        due.is("10, work is no LOOK", readsOf(times(28, ".") + LOOKS_24 + times(28, ".")), 24);
        due.is("10, a 25th behind work", readsOf(".." + LOOKS_24 + " .f"), -38);
        due.is("10, 24 of one LINE", readsOf(times(24, "f")), 24);
        due.is("10, 25 of one LINE", readsOf(times(25, "f")), -34);
        due.is("10, both of a choice count", readsOf("(" + times(12, "a") + "|" + times(12, "b") + ")"), 24);
        due.is("10, a 25th in the second", readsOf("(" + times(12, "a") + "|" + times(13, "b") + ")"), -36);
        due.is("10, LOOKS within LOOPS count once", readsOf("9[9[9[" + LOOKS_24 + "]]]"), 24);
        due.is("10, a 25th behind LOOPS", readsOf("9[9[9[" + LOOKS_24 + "]]]a"), -43);
        CacheBounds x = due.with(LOOKS_24);
        due.is("12, the 24th", x.of(23, 0), 5);
        due.is("12, no 25th", x.of(24, 0), -2);
        due.is("10, fewer again", Due.read(x, "b"), 1);
        due.is("10, and 24 again", Due.read(x, LOOKS_24), 24);
    }

    // Terms, THE TEXT: "3 ( and [ within one another"; "a 4th ( .. within"
    private static void threeWithinOneAnother() {
        String[] three = {"(((|)|)|)", "(|(|(|)))", "1[1[1[]]]", "(1[(|)]|)", "1[(|1[])]", "1[1[(|)]]", "((1[]|)|)"};
        for (String text : three) {
            CacheBounds x = due.with(text);
            due.is("11, three deep: '" + text + "'", x.told(3), 3);
            due.is("10, twice behind one another", Due.read(x, text + text), 0);
            due.is("11, no deeper behind one another", x.told(3), 3);
            due.is("10, a ( around it", Due.read(x, "(|" + text + ")") < 0 ? 1 : 0, 1);
            due.is("11, THE PROGRAM stays", x.told(3), 3);
        }
        due.is("10, a 4th (", readsOf("((((|)|)|)|)"), -13);
        due.is("10, a 4th ( in the second", readsOf("(|(|(|(|))))"), -16);
        due.is("10, a 4th ( within LOOPS", readsOf("1[1[1[(|)]]]"), -16);
        due.is("10, a 4th ( alone", readsOf("((("), -13);
        due.is("10, a 4th ( at the end", readsOf("(((("), -13);
        due.is("10, no 4th: one was closed", readsOf("(((|)(|)|)(|)|)"), 0);
    }

    // Terms, THE TEXT: "a 4th .. LOOP within: of a LOOP its figure"
    private static void ofALoopItsFigure() {
        due.is("10, a 4th LOOP", readsOf("1[1[1[1[]]]]"), -16);
        due.is("10, a 4th LOOP, blanks ahead of the figure", readsOf("1[1[1[  1[]]]]"), -18);
        due.is("10, a 4th LOOP, blanks behind the figure", readsOf("1[1[1[1  []]]]"), -16);
        due.is("10, a 4th LOOP within choices", readsOf("(((5[]|)|)|)"), -13);
        due.is("10, a 4th LOOP in the second", readsOf("(|(|(|5[])))"), -16);
        due.is("10, a 4th figure alone", readsOf("1[1[1[9"), -16);
        due.is("10, a 4th figure and no [", readsOf("1[1[1[9a"), -16);
        due.is("10, a third figure and no [", readsOf("1[1[9a"), -15);
        due.is("10, a third figure alone", readsOf("1[1[9"), -15);
    }

    // Terms, THE TEXT: "FAULT: the place of the first byte that can not stand there"
    private static void theFirstByteThatCanNotStand() {
        due.is("10, the first of two", readsOf("a)g"), -11);
        due.is("10, blanks have places too", readsOf("  a  )"), -15);
        due.is("10, ahead of an early end", readsOf("(a|]"), -13);
        due.is("10, | that is not within", readsOf("a|b"), -11);
        due.is("10, a second |", readsOf("(a|b|c)"), -14);
        due.is("10, | in a LOOP", readsOf("(1[|])"), -13);
        due.is("10, ) without |", readsOf("(a)"), -12);
        due.is("10, ) in a LOOP", readsOf("(|1[)])"), -14);
        due.is("10, ] in the first", readsOf("1[(]"), -13);
        due.is("10, ] in the second", readsOf("1[(|]"), -14);
        due.is("10, ) too many", readsOf("(|))"), -13);
        due.is("10, ] too many", readsOf("1[]]"), -13);
        due.is("10, [ behind no figure", readsOf("1[]["), -13);
        due.is("10, a letter behind a figure", readsOf("1a"), -11);
        due.is("10, ( behind a figure", readsOf("1("), -11);
        due.is("10, a 25th LOOK ahead of another fault", readsOf(LOOKS_24 + "a]"), -34);
        due.is("10, another fault ahead of a 25th LOOK", readsOf("]" + LOOKS_24 + "a"), -10);
    }

    // Terms, THE TEXT: "the TEXT's length, if it ends too early"
    private static void theLengthIfItEndsTooEarly() {
        String[] early = {"(", "(a", "(|", "(a|b", "1", "1[", "1[a", "((|)", "((|)|", "1[(|)", "a1", "1 ", "(|  ", "1[ "};
        for (String text : early) {
            due.is("10, '" + text + "'", readsOf(text), -10 - text.length());
        }
        due.is("10, '(|' and its end", readsOf("(|)"), 0);
        due.is("10, '1[' and its end", readsOf("1[]"), 0);
    }

    private static void faultsAtBothEndsOfTheText() {
        due.is("10, at place 0", readsOf("]"), -10);
        due.is("10, at place 0 of 80", readsOf("]" + times(79, ".")), -10);
        due.is("10, at place 1", readsOf(".]"), -11);
        due.is("10, at place 78 of 80", readsOf(times(78, ".") + "]."), -88);
        due.is("10, at place 79 of 80", readsOf(times(79, ".") + "]"), -89);
        due.is("10, 80 that end too early", readsOf(times(79, ".") + "("), -90);
        due.is("10, 80 that end behind a figure", readsOf(times(79, ".") + "1"), -90);
        due.is("10, 79 that end too early", readsOf(times(78, ".") + "("), -89);
        due.is("10, 80 that end in time", readsOf(times(77, ".") + "(|)"), 0);
        due.is("10, 80 that end in time with ]", readsOf(times(77, ".") + "9[]"), 0);
        due.is("10, 80 with a LOOK at the end", readsOf(times(79, ".") + "f"), 1);
        due.is("10, one way longer would be right", readsOf(times(78, ".") + "(|"), -90);
    }

    // "By a FAULT all stays, nothing counts."
    private static void byAFaultAllStays() {
        for (String faulty : new String[] {"bb)", "(b|", "1[1[1[1", LOOKS_24 + "b", "9", "cc.g"}) {
            CacheBounds x = due.with("a(b|c)2[d]");
            x.look(3);
            x.runs(5);
            x.clear();
            for (int i = 0; i < faulty.length(); i++) {
                x.type(faulty.charAt(i));
            }
            long before = x.digest();
            due.holds("10, a FAULT: '" + faulty + "'", x.reads() <= -10);
            due.is("10, all stays", x.digest(), before);
            due.is("10, nothing counts", x.count(0) + x.count(1) + x.count(2), 0);
            due.is("10, THE TEXT stays", x.count(3), faulty.length());
            due.is("10, THE PROGRAM stays", x.told(0) * 1000 + x.told(1) * 100 + x.told(2) * 10 + x.told(3), 4111);
            due.is("10, its ways", x.many(), 6);
            due.is("10, its LOOK", x.of(3, 5), 2);
            due.is("10, what can be undone", x.undo(), 1);
            due.holds("10, the FAULT again", x.reads() <= -10);
        }
    }

    private static void readsAgainAndAgain() {
        CacheBounds x = new CacheBounds();
        x.type('(');
        due.is("10, too early", x.reads(), -11);
        x.type('a');
        due.is("10, too early yet", x.reads(), -12);
        x.type('|');
        due.is("10, too early still", x.reads(), -13);
        x.type(')');
        due.is("10, now it ends", x.reads(), 1);
        due.is("10, the same again", x.reads(), 1);
        x.type('|');
        due.is("10, now there is a fault", x.reads(), -14);
        due.is("10, THE PROGRAM stays", x.told(0), 1);
    }

    // Promise 11: what may be asked, "BAD."
    private static void toldWhat0To4() {
        CacheBounds x = due.with("a(b|f)2[3[]]");
        int[] told = {3, 1, 2, 2, 35};
        for (int what = 0; what <= 4; what++) {
            due.is("11, told(" + what + ")", x.told(what), told[what]);
        }
        for (int what : new int[] {-1, 5, -2, 6, LEAST, MOST}) {
            due.is("11, told(" + what + ")", x.told(what), -2);
        }
        due.is("11, each BAD counts", x.count(0), 6);
    }

    private static void toldAtItsLeastAndMost() {
        CacheBounds none = due.with("");
        for (int what = 0; what <= 4; what++) {
            due.is("11, of nothing told(" + what + ")", none.told(what), 0);
        }
        due.is("11, the most LOOKS", due.with(LOOKS_24).told(0), 24);
        due.is("11, the most choices", due.with(times(26, "(|)") + "..").told(1), 26);
        due.is("11, the most LOOPS", due.with(times(26, "1[]")).told(2), 26);
        due.is("11, choices are no LOOPS", due.with(times(26, "(|)")).told(2), 0);
        due.is("11, LOOPS are no choices", due.with(times(26, "1[]")).told(1), 0);
        due.is("11, 0 deep", due.with("ab.").told(3), 0);
        due.is("11, 1 deep", due.with("(|)1[]").told(3), 1);
        due.is("11, 2 deep", due.with("(|)1[(|)](|)").told(3), 2);
        due.is("11, 3 deep", due.with("(|)1[(|1[])](|)").told(3), 3);
        due.is("11, no LINES", due.with(".(.|.)").told(4), 0);
        due.is("11, all LINES", due.with("f1[e](d|c)ba").told(4), 63);
        due.is("11, the lowest and the highest LINE", due.with("fafa").told(4), 33);
    }

    private static void toldOfTheLastReadAlone() {
        CacheBounds x = due.with("abcdef(1[(|)]|)1[]");
        String[] texts = {"f", "(|)", "1[(|b)]", "", "(((|)|)|)", "(a|", "a"};
        int[][] told = {{1, 0, 0, 0, 32}, {0, 1, 0, 1, 0}, {1, 1, 1, 2, 2}, {0, 0, 0, 0, 0}, {0, 3, 0, 3, 0},
            {0, 3, 0, 3, 0}, {1, 0, 0, 0, 1}};
        for (int i = 0; i < texts.length; i++) {
            Due.read(x, texts[i]);
            for (int what = 0; what <= 4; what++) {
                due.is("11, behind '" + texts[i] + "' told(" + what + ")", x.told(what), told[i][what]);
            }
        }
    }

    // Promise 12: "Of LOOK k .. BAD."
    private static void ofEachLook() {
        CacheBounds x = new CacheBounds();
        due.is("12, of no program", x.of(0, 0), -2);
        for (int looks = 1; looks <= 24; looks += looks == 1 ? 1 : 22) {
            Due.read(x, LOOKS_24.substring(0, looks));
            due.is("12, the first of " + looks, x.of(0, 0), 0);
            due.is("12, the last of " + looks, x.of(looks - 1, 0), (looks - 1) % 6);
            for (int k : new int[] {looks, looks + 1, -1, 24, 25, LEAST, MOST}) {
                due.is("12, of(" + k + ", 0) of " + looks, x.of(k, 0), -2);
            }
        }
        int before = x.count(0);
        Due.read(x, "..");
        due.is("12, work is no LOOK", x.of(0, 0), -2);
        Due.read(x, "ab");
        due.is("12, fewer LOOKS than before", x.of(2, 0), -2);
        due.is("12, each BAD counts", x.count(0) - before, 2);
    }

    private static void ofWhat0To5() {
        CacheBounds x = due.with("7[c]");
        int[] facts = {2, 0, 2, 0, 1, 7};
        for (int what = 0; what <= 5; what++) {
            due.is("12, of(0, " + what + ")", x.of(0, what), facts[what]);
        }
        for (int what : new int[] {-1, 6, -2, 7, LEAST, MOST}) {
            due.is("12, of(0, " + what + ")", x.of(0, what), -2);
            due.is("12, of(1, " + what + ")", x.of(1, what), -2);
        }
        due.is("12, each BAD counts once", x.count(0), 12);
    }

    // Promise 12: "the figure of the innermost LOOP around it (5; 0: none)"
    private static void figureAroundOrNone() {
        CacheBounds x = due.with("a1[b]c9[d2[e3[f]a]b](c|8[d])4[(e|f)](a|)");
        int[] figures = {0, 1, 0, 9, 2, 3, 2, 9, 0, 8, 4, 4, 0};
        for (int k = 0; k < figures.length; k++) {
            due.is("12, the figure around LOOK " + k, x.of(k, 5), figures[k]);
        }
        due.is("12, behind an empty LOOP", due.with("9[]a").of(0, 5), 0);
        due.is("12, the highest figure", due.with("9[a]").of(0, 5), 9);
        due.is("12, a choice around is no LOOP", due.with("(a|)").of(0, 5), 0);
        due.is("12, a choice in a LOOP", due.with("4[(|a)]").of(0, 5), 4);
    }
}
