/** One part for each promise: ordinary inputs, the edges that the document names, wrong inputs. */
public final class PromisesTest {
    private static final int LEAST = Integer.MIN_VALUE, MOST = Integer.MAX_VALUE;
    private static final Due due = new Due();

    public static void main(String[] args) {
        p1NewObject();
        p2Ways();
        p3Kind();
        p4Price();
        p5Empties();
        p6Look();
        p7Held();
        p8Type();
        p9Clear();
        p10Reads();
        p10ReadsLimits();
        p11Told();
        p12Of();
        p13Sure();
        p14Behind();
        p15Upper();
        p16Lower();
        p17Worst();
        p18Best();
        p19Ends();
        p20Many();
        p21WorstBy();
        p22Runs();
        p23Ran();
        p24Undo();
        p25Draws();
        p26Count();
        p27Digest();
        due.end("PromisesTest");
    }

    private static void p1NewObject() {
        CacheBounds x = new CacheBounds();
        int[] counts = {0, 0, 0, 0, 2, 0, 10, 0, 0};
        for (int i = 0; i < counts.length; i++) {
            due.is("1: count(" + i + ")", x.count(i), counts[i]);
        }
        for (int i = 0; i < 5; i++) {
            due.is("1: told(" + i + ")", x.told(i), 0);
        }
        for (int i = 0; i < 3; i++) {
            due.is("1: ran(" + i + ")", x.ran(i), 0);
        }
        due.is("1: held(0)", x.held(0), -1);
        due.is("1: upper()", x.upper(), 0);
        due.is("1: lower()", x.lower(), 0);
        due.is("1: worst()", x.worst(), 0);
        due.is("1: best()", x.best(), 0);
        due.is("1: ends()", x.ends(), 1);
        due.is("1: many()", x.many(), 1);
        due.is("1: behind(0, 5)", x.behind(0, 5), 2);
        due.is("1: behind(1, 5)", x.behind(1, 5), 2);
        CacheBounds other = new CacheBounds();
        x.ways(3);
        x.look(4);
        due.is("1: another object's WAYS", other.count(4), 2);
        due.is("1: another object's row", Due.row(other), 9);
    }

    private static void p2Ways() {
        CacheBounds x = new CacheBounds();
        due.is("2: ways(3)", x.ways(3), 2);
        Due.looks(x, 0, 1, 2);
        due.is("2: three held", Due.row(x), 9210);
        due.is("2: ways(2)", x.ways(2), 3);
        due.is("2: the last went", Due.row(x), 921);
        due.is("2: ways(1)", x.ways(1), 2);
        due.is("2: the last went again", Due.row(x), 92);
        due.is("2: ways(3)", x.ways(3), 1);
        due.is("2: nothing came back", Due.row(x), 92);
        for (int n : new int[] {0, 4, -1, LEAST, MOST}) {
            due.is("2: ways(" + n + ")", x.ways(n), -2);
        }
        due.is("2: WAYS stay", x.count(4), 3);
        due.is("2: BAD is counted", x.count(0), 5);
        due.is("2: what was refused can't be undone", x.count(8), 7);
    }

    private static void p3Kind() {
        CacheBounds x = new CacheBounds();
        due.is("3: kind(3)", x.kind(3), 0);
        due.is("3: kind(1)", x.kind(1), 3);
        due.is("3: kind(2)", x.kind(2), 1);
        due.is("3: kind(0)", x.kind(0), 2);
        for (int k : new int[] {-1, 4, LEAST, MOST}) {
            due.is("3: kind(" + k + ")", x.kind(k), -2);
        }
        due.is("3: KIND stays", x.count(5), 0);
        Due.looks(x, 0, 1);
        x.kind(1);
        due.is("3: the row stays", Due.row(x), 910);
    }

    private static void p4Price() {
        CacheBounds x = new CacheBounds();
        due.is("4: price(2)", x.price(2), 10);
        due.is("4: look(0)", x.look(0), 2);
        due.is("4: price(99)", x.price(99), 2);
        due.is("4: look(1)", x.look(1), 99);
        due.is("4: look(1)", x.look(1), 1);
        for (int n : new int[] {1, 100, 0, -5, LEAST, MOST}) {
            due.is("4: price(" + n + ")", x.price(n), -2);
        }
        due.is("4: PRICE stays", x.count(6), 99);
    }

    private static void p5Empties() {
        CacheBounds x = new CacheBounds();
        due.is("5: empties() when empty", x.empties(), 0);
        Due.looks(x, 3, 4, 5);
        due.is("5: empties()", x.empties(), 2);
        due.is("5: nothing is held", Due.row(x), 9);
        due.is("5: all miss again", x.look(5), 10);
        due.is("5: each emptying can be undone", x.count(8), 6);
    }

    private static void p6Look() {
        CacheBounds x = new CacheBounds();
        due.is("6: a MISS", x.look(0), 10);
        due.is("6: a HIT", x.look(0), 1);
        for (int line : new int[] {-1, 6, LEAST, MOST}) {
            due.is("6: look(" + line + ")", x.look(line), -2);
        }
        due.is("6: the row stays", Due.row(x), 90);
        // The rows behind a hit at place 0, 1, 2 of 210 (2 in front), by kind.
        int[][] full = {{9210, 9120, 9021}, {9210, 9210, 9210}, {9210, 9120, 9201}, {9210, 9120, 9210}};
        for (int kind = 0; kind < 4; kind++) {
            for (int place = 0; place < 3; place++) {
                CacheBounds y = new CacheBounds();
                y.ways(3);
                Due.looks(y, 0, 1, 2);
                y.kind(kind);
                due.is("6: a hit at " + place, y.look(2 - place), 1);
                due.is("6: the row by kind " + kind + " at " + place, Due.row(y), full[kind][place]);
                due.is("6: a miss behind it", y.look(5), 10);
                due.is("6: the last one went", y.held(2) == full[kind][place] / 10 % 10 ? 1 : 0, 1);
                due.is("6: it came to the front", y.held(0), 5);
            }
        }
        // A row of fewer than WAYS: by ONCE its last one comes to the front.
        CacheBounds y = new CacheBounds();
        y.ways(3);
        Due.looks(y, 0, 1);
        y.kind(3);
        due.is("6: a hit at the last of two", y.look(0), 1);
        due.is("6: ONCE with a row that isn't full", Due.row(y), 901);
        y.ways(2);
        y.look(1);
        due.is("6: ONCE with a full row", Due.row(y), 901);
        for (int kind = 0; kind < 4; kind++) {
            CacheBounds z = new CacheBounds();
            z.kind(kind);
            z.ways(1);
            Due.looks(z, 4, 4);
            due.is("6: one way, a hit", Due.row(z), 94);
            z.look(3);
            due.is("6: one way, a miss", Due.row(z), 93);
        }
    }

    private static void p7Held() {
        CacheBounds x = new CacheBounds();
        Due.looks(x, 5, 0);
        due.is("7: held(0)", x.held(0), 0);
        due.is("7: held(1)", x.held(1), 5);
        for (int k : new int[] {2, 3, 4, 10, 11, 32, 1000, MOST}) {
            due.is("7: held(" + k + ")", x.held(k), -1);
        }
        due.is("7: NONE isn't refused", x.count(0), 0);
        due.is("7: held(-1)", x.held(-1), -2);
        due.is("7: held(LEAST)", x.held(LEAST), -2);
        due.is("7: BAD is counted", x.count(0), 2);
    }

    private static void p8Type() {
        CacheBounds x = new CacheBounds();
        due.is("8: type(0)", x.type(0), 1);
        due.is("8: type(127)", x.type(127), 2);
        for (int c : new int[] {-1, 128, LEAST, MOST}) {
            due.is("8: type(" + c + ")", x.type(c), -2);
        }
        x.clear();
        for (int i = 1; i <= 80; i++) {
            due.is("8: byte " + i, x.type('.'), i);
        }
        due.is("8: byte 81", x.type('.'), -4);
        due.is("8: a wrong byte 81", x.type(128), -2);
        due.is("8: FULL is counted", x.count(2), 1);
        due.is("8: BAD is counted", x.count(0), 5);
        due.is("8: it still has 80", x.count(3), 80);
        due.is("8: 80 of work", x.reads(), 0);
        due.is("8: upper()", x.upper(), 80);
    }

    private static void p9Clear() {
        CacheBounds x = due.with("ab");
        due.is("9: clear()", x.clear(), 2);
        due.is("9: clear() again", x.clear(), 0);
        due.is("9: no bytes", x.count(3), 0);
        due.is("9: THE PROGRAM stays", x.told(0), 2);
        x.type('c');
        due.is("9: what was cleared is gone", x.reads(), 1);
        due.is("9: its line", x.of(0, 0), 2);
    }

    private static void p10Reads() {
        CacheBounds x = new CacheBounds();
        due.is("10: reads()", Due.read(x, "a(b|c)2[d]."), 4);
        due.is("10: THE TEXT stays", x.count(3), 11);
        x.type('e');
        due.is("10: reads() goes on", x.reads(), 5);
        due.is("10: THE TEXT stays too", x.count(3), 12);
        String[] faulty = {"|", ")", "]", "[", "[a]", "0[a]", "g", "A", "a[", "(a)", "(a|b|", "(a|b]", "2[a)",
            "2[a|", "2[(a]", "(2[a|", "2a", "2 2[", "22[", "2(", "a b c\t", "(|))", "2[]]", "2.", "-1[a]"};
        int[] places = {0, 0, 0, 0, 0, 0, 0, 0, 1, 2, 4, 4, 3, 3, 4, 4, 1, 2, 1, 1, 5, 3, 3, 1, 0};
        for (int i = 0; i < faulty.length; i++) {
            due.is("10: fault in '" + faulty[i] + "'", Due.read(x, faulty[i]), -10 - places[i]);
            due.is("10: THE PROGRAM stays by '" + faulty[i] + "'", x.told(0), 5);
        }
        String[] early = {"(", "(a", "(a|", "(a|b", "3", "3[", "3[a", "3 ", "(|3[](|)  "};
        for (String text : early) {
            due.is("10: '" + text + "' ends too early", Due.read(x, text), -10 - text.length());
        }
        due.is("10: nothing counts by a fault", x.count(0) + x.count(1) + x.count(2), 0);
        due.is("10: THE PROGRAM is still the old one", x.told(4), 31);
        due.is("10: an empty text", Due.read(x, ""), 0);
        due.is("10: an empty program", x.told(4), 0);
        due.is("10: blanks", Due.read(x, "  3  [ ( a | ) ]  "), 1);
        due.is("10: blanks' program", x.many(), 15);
        due.is("10: empty rows", Due.read(x, "(|)9[]"), 0);
        due.is("10: both", x.told(1) * 10 + x.told(2), 11);
    }

    private static void p10ReadsLimits() {
        CacheBounds x = new CacheBounds();
        String looks24 = "abcdefabcdefabcdefabcdef";
        due.is("10: 24 looks", Due.read(x, looks24), 24);
        due.is("10: 25 looks", Due.read(x, looks24 + "a"), -34);
        due.is("10: 25 looks, a blank ahead", Due.read(x, " " + looks24 + ".f"), -36);
        due.is("10: a 25th look in a choice", Due.read(x, looks24 + "(|a)"), -36);
        due.is("10: three deep", Due.read(x, "1[1[1[a]]]((( |)|)|)"), 1);
        due.is("10: a 4th (", Due.read(x, "((((|)|)|)|)"), -13);
        due.is("10: a 4th ( behind three that closed", Due.read(x, "(((|)|)|)(((|)|(|))|)"), 0);
        due.is("10: a 4th LOOP's figure", Due.read(x, "1[(|1[ 2[a]])]"), -17);
        due.is("10: a 4th figure alone", Due.read(x, "1[1[1[2"), -16);
        due.is("10: a 4th ( in LOOPS", Due.read(x, "1[1[1[("), -16);
        due.is("10: a 4th LOOP in choices", Due.read(x, "(|(|(|a1"), -17);
    }

    private static void p11Told() {
        CacheBounds x = due.with("a(b|2[c(.|)]3[])f4[5[6[f]]]");
        int[] want = {5, 2, 5, 3, 39};
        for (int what = 0; what < 5; what++) {
            due.is("11: told(" + what + ")", x.told(what), want[what]);
        }
        for (int what : new int[] {-1, 5, LEAST, MOST}) {
            due.is("11: told(" + what + ")", x.told(what), -2);
        }
        due.is("11: BAD is counted", x.count(0), 4);
        due.is("11: (|) is 1 deep", due.with("(|)").told(3), 1);
        due.is("11: side by side is no deeper", due.with("1[](|)1[]").told(3), 1);
        due.is("11: within is deeper", due.with("1[](|1[])").told(3), 2);
        due.is("11: all lines", due.with("fedcba").told(4), 63);
        due.is("11: work is no look", due.with("...").told(0), 0);
    }

    private static void of(String text, int k, int... want) {
        CacheBounds x = due.with(text);
        of(x, text, k, want);
    }

    private static void of(CacheBounds x, String text, int k, int... want) {
        for (int what = 0; what < want.length; what++) {
            due.is("12: '" + text + "' of(" + k + ", " + what + ")", x.of(k, what), want[what]);
        }
    }

    private static void p12Of() {
        // line, sort, MUST, MAY, KEPT, figure
        of("a", 0, 0, 2, 2, 2, 0, 0);
        of("aa", 1, 0, 1, 0, 0, 0, 0);
        of("aba", 2, 0, 1, 1, 1, 0, 0);
        of("abca", 3, 0, 2, 2, 2, 0, 0);
        of("(a|b)a", 2, 0, 0, 2, 0, 0, 0);
        of("(a|ab)a", 3, 0, 1, 1, 0, 0, 0);
        of("(ab|ba)cb", 5, 1, 0, 2, 1, 0, 0);
        of("5[a]", 0, 0, 0, 2, 0, 1, 5);
        of("a5[a]", 1, 0, 1, 0, 0, 0, 5);
        of("5[ab]", 1, 1, 0, 2, 1, 1, 5);
        of("5[abc]", 0, 0, 2, 2, 2, 0, 5);
        of("5[a(b|c)]", 0, 0, 0, 2, 1, 0, 5);
        of("2[a3[b]]", 1, 1, 0, 2, 0, 1, 3);
        of("2[a3[b]]", 0, 0, 0, 2, 0, 1, 2);
        of("2[a3[b]c]", 0, 0, 0, 2, 1, 0, 2);
        of("2[a3[b]c]", 1, 1, 0, 2, 0, 1, 3);
        of("2[a3[b]c]", 2, 2, 0, 2, 1, 0, 2);
        of("2[(a|b)]c", 2, 2, 2, 2, 2, 0, 0);
        of("9[a]a", 1, 0, 0, 2, 0, 0, 0);
        CacheBounds x = due.with("3[abc]");
        of(x, "3[abc] by 2", 2, 2, 2, 2, 2, 0, 3);
        x.ways(3);
        of(x, "3[abc] by 3", 2, 2, 0, 3, 2, 1, 3);
        x.ways(1);
        of(x, "3[abc] by 1", 2, 2, 2, 1, 1, 0, 3);
        x.kind(2);
        Due.looks(x, 2);
        of(x, "3[abc] by 1, the cache counts not", 2, 2, 2, 1, 1, 0, 3);
        int[][] wrong = {{3, 0}, {-1, 0}, {0, 6}, {0, -1}, {LEAST, 0}, {MOST, 0}, {0, LEAST}, {0, MOST}, {24, 9}};
        for (int[] w : wrong) {
            due.is("12: of(" + w[0] + ", " + w[1] + ")", x.of(w[0], w[1]), -2);
        }
        due.is("12: BAD is counted", x.count(0), wrong.length);
        due.is("12: of an empty program", new CacheBounds().of(0, 0), -2);
        followingKeepsUp();
    }

    /** What was followed once must not be told of another program, or of other WAYS. */
    private static void followingKeepsUp() {
        CacheBounds x = due.with("ab");
        due.is("12: a miss", x.of(1, 1), 2);
        Due.read(x, "aa");
        due.is("12: of the new program", x.of(1, 1), 1);
        Due.read(x, "a)");
        due.is("12: a fault changes nothing", x.of(1, 1), 1);
        due.is("12: MUST of another by 2", x.behind(0, 4), 2);
        x.ways(3);
        due.is("12: MUST of another by 3", x.behind(0, 4), 3);
        x.undo();
        due.is("12: MUST of another by 2 again", x.behind(0, 4), 2);
    }

    private static void sure(String text, int ways, int open, int hits, int misses, int kept) {
        CacheBounds x = due.with(text);
        x.ways(ways);
        int[] want = {open, hits, misses, kept};
        for (int what = 0; what < 4; what++) {
            due.is("13: '" + text + "' sure(" + what + ")", x.sure(what), want[what]);
        }
    }

    private static void p13Sure() {
        sure("", 2, 0, 0, 0, 0);
        sure("aab", 2, 0, 1, 2, 0);
        sure("(a|)a", 2, 1, 0, 1, 0);
        sure("9[ab]ab", 2, 4, 0, 0, 2);
        sure("9[abc]", 2, 0, 0, 3, 0);
        sure("9[abc]", 3, 3, 0, 0, 3);
        sure("ab9[a(b|c)]", 3, 2, 1, 2, 2);
        CacheBounds x = new CacheBounds();
        for (int what : new int[] {-1, 4, LEAST, MOST}) {
            due.is("13: sure(" + what + ")", x.sure(what), -2);
        }
        due.is("13: BAD is counted", x.count(0), 4);
    }

    private static void p14Behind() {
        CacheBounds x = due.with("ab(c|b)");
        x.ways(3);
        int[] must = {2, 1, 3, 3, 3, 3};
        int[] may = {1, 0, 0, 3, 3, 3};
        for (int line = 0; line < 6; line++) {
            due.is("14: MUST of " + line, x.behind(0, line), must[line]);
            due.is("14: MAY of " + line, x.behind(1, line), may[line]);
        }
        x.look(5);
        due.is("14: THE CACHE counts not", x.behind(1, 5), 3);
        int[][] wrong = {{-1, 0}, {2, 0}, {0, -1}, {1, 6}, {LEAST, 0}, {MOST, 0}, {0, LEAST}, {0, MOST}};
        for (int[] w : wrong) {
            due.is("14: behind(" + w[0] + ", " + w[1] + ")", x.behind(w[0], w[1]), -2);
        }
        due.is("14: BAD is counted", x.count(0), wrong.length);
        CacheBounds y = due.with("a1[bc]");
        due.is("14: MUST behind a loop", y.behind(0, 0), 2);
        due.is("14: MAY behind a loop", y.behind(1, 0), 0);
        due.is("14: MAY of c behind a loop", y.behind(1, 2), 0);
        due.is("14: MAY of b behind a loop", y.behind(1, 1), 1);
        // In MAY those of the same age grow older with a hit, and those of an older age don't.
        CacheBounds z = due.with("(a|b)a");
        due.is("14: MAY of b behind (a|b)a", z.behind(1, 1), 1);
        CacheBounds w = due.with("(a|b)(a|b)b");
        due.is("14: MUST of a", w.behind(0, 0), 2);
        due.is("14: MAY of a", w.behind(1, 0), 1);
    }

    private static void p15Upper() {
        due.is("15: looks", due.with("abab").upper(), 22);
        due.is("15: work and blanks", due.with(". . .").upper(), 3);
        due.is("15: the dearer of both", due.with("(..|...)").upper(), 3);
        due.is("15: the dearer of both, turned", due.with("(...|..)").upper(), 3);
        due.is("15: loops as often as may be", due.with("3[.2[.]]").upper(), 9);
        due.is("15: an open look is a miss", due.with("(a|)a").upper(), 20);
        due.is("15: a kept look is a miss each time", due.with("9[a]").upper(), 90);
        due.is("15: sure hits in a loop", due.with("a9[a]").upper(), 19);
        CacheBounds x = due.with("9[9[9[abcdefabcdefabcdefabcdef]]]");
        x.price(99);
        due.is("15: the most there is", x.upper(), 729 * 24 * 99);
        Due.looks(x, 0, 1);
        x.kind(1);
        due.is("15: THE CACHE and its KIND count not", x.upper(), 729 * 24 * 99);
        x.ways(3);
        due.is("15: three ways", x.upper(), 729 * 24 * 99);
    }

    private static void p16Lower() {
        due.is("16: looks", due.with("abab").lower(), 22);
        due.is("16: the cheaper of both", due.with("(..|...)").lower(), 2);
        due.is("16: the cheaper of both, turned", due.with("(...|..)").lower(), 2);
        due.is("16: loops not at all", due.with(".3[...]").lower(), 1);
        due.is("16: an open look is a hit", due.with("(a|)a").lower(), 1);
        due.is("16: a sure miss", due.with("(a|b)c").lower(), 20);
        CacheBounds x = due.with("ab");
        Due.looks(x, 0, 1);
        x.price(50);
        due.is("16: THE CACHE counts not", x.lower(), 100);
    }

    private static void p17Worst() {
        CacheBounds x = due.with("(a|b)(a|b)");
        due.is("17: two misses", x.worst(), 20);
        x.look(0);
        due.is("17: from THE CACHE as it is", x.worst(), 11);
        x.look(1);
        due.is("17: both held", x.worst(), 2);
        x.ways(1);
        due.is("17: one way", x.worst(), 20);
        x.price(3);
        due.is("17: another price", x.worst(), 6);
        due.is("17: work", due.with("..(.|..)").worst(), 4);
        CacheBounds y = due.with("ab2[cab]");
        due.is("17: LRU", y.worst(), 80);
        // a b | a stays last by FIFO: c puts it out, ..
        CacheBounds z = due.with("abaca");
        due.is("17: abaca by LRU", z.worst(), 32);
        z.kind(1);
        due.is("17: abaca by FIFO", z.worst(), 41);
        z.kind(2);
        due.is("17: abaca by HALF", z.worst(), 32);
        z.kind(3);
        due.is("17: abaca by ONCE", z.worst(), 41);
        CacheBounds big = due.with("9[9[9[a]9[b]9[c]9[d]9[e]9[f]9[a]9[b]9[c]9[d]9[e]9[f]9[a]9[b]9[c]9[d]9[e]9[f]]]");
        big.ways(3);
        due.is("17: looks alone in loops", big.worst(), 81 * 18 * (10 + 8));
        due.is("17: nothing changed", Due.row(big), 9);
        exploringKeepsUp();
    }

    /** What was found once must not be told of another program or cache. */
    private static void exploringKeepsUp() {
        CacheBounds x = due.with("a");
        due.is("17: a", x.worst(), 10);
        Due.read(x, "ab");
        due.is("17: ab", x.worst(), 20);
        Due.read(x, "ab(");
        due.is("17: ab still", x.worst(), 20);
        due.is("17: ab from an empty cache by 1", x.worstBy(0, 1), 20);
        x.look(1);
        due.is("17: with b held", x.worst(), 11);
        x.look(0);
        due.is("17: with a, b held", x.worst(), 2);
        due.is("17: ab from an empty cache by 2", x.worstBy(0, 2), 20);
        due.is("17: with a, b held, again", x.worst(), 2);
        x.undo();
        x.undo();
        due.is("17: with nothing held", x.worst(), 20);
    }

    private static void p18Best() {
        due.is("18: the first", due.with("(.|..)").best(), 1);
        due.is("18: a loop not at all", due.with("9[.]").best(), 0);
        due.is("18: a look that can hit", due.with("(a|b)a").best(), 11);
        CacheBounds x = due.with("(a|..)");
        due.is("18: work is less than a miss", x.best(), 2);
        x.look(0);
        due.is("18: a hit is less than work", x.best(), 1);
        // Doing a loop can be cheaper than leaving it out: never of itself, but for what comes behind.
        CacheBounds y = due.with("(b|ab)bb");
        due.is("18: the least of all ways", y.best(), 12);
        due.is("18: nothing changed", Due.row(y), 9);
    }

    private static void p19Ends() {
        due.is("19: none", due.with("").ends(), 1);
        due.is("19: one", due.with("ab").ends(), 1);
        due.is("19: two", due.with("(a|b)").ends(), 2);
        due.is("19: the same row by two ways", due.with("(a|.a)").ends(), 1);
        due.is("19: the order counts", due.with("(ab|ba)").ends(), 2);
        due.is("19: a loop", due.with("9[a]").ends(), 2);
        due.is("19: a loop's figure counts", due.with("1[(a|b)]").ends(), 3);
        due.is("19: a loop's figure counts too", due.with("2[(a|b)]").ends(), 5);
        CacheBounds y = due.with("3[((a|b)|(c|d))]3[(e|f)]3[((a|b)|(c|d))]3[(e|f)]3[((a|b)|(c|d))]");
        y.ways(3);
        due.is("19: all rows there are", y.ends(), 1 + 6 + 30 + 120);
        y.ways(2);
        due.is("19: all rows there are by 2", y.ends(), 1 + 6 + 30);
        y.look(0);
        due.is("19: never empty again", y.ends(), 6 + 30 - 5);
    }

    private static void p20Many() {
        due.is("20: one", due.with("abc.").many(), 1);
        due.is("20: choices", due.with("(a|b)(|)").many(), 4);
        due.is("20: a choice in a choice", due.with("((|)|)").many(), 3);
        due.is("20: a loop", due.with("9[.]").many(), 10);
        due.is("20: a loop of an empty row", due.with("9[]").many(), 10);
        due.is("20: a choice in a loop", due.with("3[(|)]").many(), 15);
        due.is("20: a loop in a loop", due.with("2[3[]]").many(), 21);
        StringBuilder choices = new StringBuilder();
        for (int i = 0; i < 26; i++) {
            choices.append("(|)");
        }
        due.is("20: 26 choices", due.with(choices.toString()).many(), 1 << 26);
        due.is("20: nine loops", due.with("9[]9[]9[]9[]9[]9[]9[]9[]9[]").many(), 1000000000);
        due.is("20: nine loops less one way", due.with("9[]9[]9[]9[]9[]9[]9[]9[]8[]").many(), 900000000);
        due.is("20: beyond", due.with("9[]9[]9[]9[]9[]9[]9[]9[](9[]|)").many(), 1000000000);
        due.is("20: far beyond", due.with("9[9[9[]9[]9[]9[]9[]9[]]]").many(), 1000000000);
        due.is("20: the figures in a product", due.with("9[9[9[]]]9[9[9[]]]9[9[9[]]]").many(), 1000000000);
    }

    private static void p21WorstBy() {
        CacheBounds x = due.with("2[abc]");
        int[] want = {60, 60, 33};
        for (int n = 1; n <= 3; n++) {
            due.is("21: worstBy(0, " + n + ")", x.worstBy(0, n), want[n - 1]);
        }
        due.is("21: worstBy(1, 0)", x.worstBy(1, 0), 3);
        Due.looks(x, 0, 1);
        due.is("21: THE CACHE is empty at the beginning", x.worstBy(0, 3), 33);
        due.is("21: THE CACHE stays", Due.row(x), 910);
        due.is("21: WAYS stay", x.count(4), 2);
        Due.read(x, "abab");
        due.is("21: two do", x.worstBy(1, MOST), 2);
        due.is("21: n counts not", x.worstBy(1, LEAST), 2);
        Due.read(x, "aa");
        due.is("21: one does", x.worstBy(1, -7), 1);
        // By FIFO more ways can be worse (Belady's): the KIND counts.
        x.kind(1);
        Due.read(x, "abcabdabcd");
        due.is("21: FIFO by 3", x.worstBy(0, 3), fifoMisses("abcabdabcd", 3) * 9 + 10);
        x.price(20);
        due.is("21: the PRICE counts", x.worstBy(0, 3), fifoMisses("abcabdabcd", 3) * 19 + 10);
        int[][] wrong = {{-1, 1}, {2, 1}, {0, 0}, {0, 4}, {LEAST, 1}, {MOST, 1}, {0, LEAST}, {0, MOST}};
        int before = x.count(0);
        for (int[] w : wrong) {
            due.is("21: worstBy(" + w[0] + ", " + w[1] + ")", x.worstBy(w[0], w[1]), -2);
        }
        due.is("21: BAD is counted", x.count(0) - before, wrong.length);
    }

    private static int fifoMisses(String lines, int ways) {
        String row = "";
        int misses = 0;
        for (int i = 0; i < lines.length(); i++) {
            if (row.indexOf(lines.charAt(i)) < 0) {
                misses++;
                row = lines.charAt(i) + row;
                row = row.substring(0, Math.min(ways, row.length()));
            }
        }
        return misses;
    }

    private static void p22Runs() {
        CacheBounds x = due.with("(a|b)3[c].");
        due.is("22: runs(0)", x.runs(0), 11);
        due.is("22: the first was chosen", Due.row(x), 90);
        due.is("22: runs(1)", x.runs(1), 11);
        due.is("22: the second was chosen", Due.row(x), 910);
        due.is("22: runs(2): c once", x.runs(2), 12);
        due.is("22: THE CACHE is as behind it", Due.row(x), 920);
        due.is("22: runs(15): c three times", x.runs(15), 10 + 1 + 1 + 1 + 1);
        due.is("22: bits that aren't asked count not", x.runs(1048575), 5);
        for (int chosen : new int[] {-1, 1048576, LEAST, MOST}) {
            due.is("22: runs(" + chosen + ")", x.runs(chosen), -2);
        }
        due.is("22: THE CACHE stays", Due.row(x), 921);
        due.is("22: BAD is counted", x.count(0), 4);
        CacheBounds y = due.with("9[9[.]]9[.]");
        due.is("22: beyond 20 bits all is 0", y.runs(1048575), 18);
        CacheBounds z = due.with("2[(.|..)]");
        due.is("22: in order as asked", z.runs(0b0111), 3);
        due.is("22: in order as asked, turned", z.runs(0b1101), 3);
        due.is("22: no bit when it was done as often as may be", due.with("1[.](|..)").runs(0b11), 3);
    }

    private static void p23Ran() {
        CacheBounds x = due.with("ab3[a(b|c)].");
        x.runs(7);
        due.is("23: HITS", x.ran(0), 2);
        due.is("23: MISSES", x.ran(1), 4);
        due.is("23: bits", x.ran(2), 5);
        x.draws(1, 20);
        Due.looks(x, 1, 2, 3);
        x.runs(-1);
        x.undo();
        due.is("23: HITS of the last run still", x.ran(0), 2);
        due.is("23: MISSES of the last run still", x.ran(1), 4);
        due.is("23: bits of the last run still", x.ran(2), 5);
        for (int what : new int[] {-1, 3, LEAST, MOST}) {
            due.is("23: ran(" + what + ")", x.ran(what), -2);
        }
        Due.read(x, "");
        x.runs(9);
        due.is("23: an empty run", x.ran(0) + x.ran(1) + x.ran(2), 0);
        Due.read(x, "9[]9[]9[]9[]");
        x.runs(1048575);
        due.is("23: bits beyond 20 are asked too", x.ran(2), 9 + 9 + 3 + 1);
    }

    private static void p24Undo() {
        CacheBounds x = due.with("ab");
        due.is("24: undo() of nothing", x.undo(), -3);
        due.is("24: NO is counted", x.count(1), 1);
        x.ways(3);
        x.kind(2);
        x.price(7);
        Due.looks(x, 3, 4);
        x.runs(0);
        x.ways(1);
        x.empties();
        due.is("24: eight", x.count(8), 8);
        due.is("24: undo() of emptying", x.undo(), 7);
        due.is("24: one line again", Due.row(x), 91);
        due.is("24: undo() of ways", x.undo(), 6);
        due.is("24: the lines are back", Due.row(x), 9104);
        due.is("24: WAYS are back", x.count(4), 3);
        due.is("24: undo() of the run", x.undo(), 5);
        due.is("24: as ahead of the run", Due.row(x), 943);
        due.is("24: undo() of a look", x.undo(), 4);
        due.is("24: as ahead of the look", Due.row(x), 93);
        due.is("24: undo() of a look", x.undo(), 3);
        due.is("24: undo() of the price", x.undo(), 2);
        due.is("24: PRICE is back", x.count(6), 10);
        due.is("24: undo() of the kind", x.undo(), 1);
        due.is("24: KIND is back", x.count(5), 0);
        due.is("24: undo() of the ways", x.undo(), 0);
        due.is("24: WAYS are back", x.count(4), 2);
        due.is("24: no more", x.undo(), -3);
        due.is("24: THE PROGRAM and THE TEXT stay", x.told(0) * 10 + x.count(3), 22);
        for (int i = 0; i < 11; i++) {
            x.price(20 + i);
        }
        due.is("24: 8 at most", x.count(8), 8);
        for (int i = 7; i >= 0; i--) {
            due.is("24: undo() " + i, x.undo(), i);
            due.is("24: PRICE " + i, x.count(6), 22 + i);
        }
        due.is("24: older ones are lost", x.undo(), -3);
        due.is("24: PRICE stays", x.count(6), 22);
        x.price(22);
        x.kind(0);
        x.ways(2);
        x.empties();
        due.is("24: what changes nothing can be undone", x.count(8), 4);
        x.type('a');
        x.reads();
        x.draws(1, 1);
        x.worstBy(1, 1);
        x.clear();
        due.is("24: other calls can't be undone", x.count(8), 4);
    }

    private static void p25Draws() {
        CacheBounds x = due.with("9[(.|..)]");
        due.is("25: none", x.draws(5, 0), 0);
        int[] seeds = {0, 1, 77, 123456, 999999};
        for (int seed : seeds) {
            long state = seed;
            int most = 0;
            for (int n = 1; n <= 20; n++) {
                state = (state * 1103515245L + 12345L) & 0x7fffffffL;
                most = Math.max(most, due.with("9[(.|..)]").runs((int) (state >> 10 & 0xfffff)));
                due.is("25: draws(" + seed + ", " + n + ")", x.draws(seed, n), most);
            }
        }
        CacheBounds y = due.with("ab");
        due.is("25: from THE CACHE as it is each time", y.draws(3, 4), 20);
        due.is("25: it stays", Due.row(y), 9);
        Due.looks(y, 0, 1);
        due.is("25: all held", y.draws(3, 4), 2);
        due.is("25: it can't be undone", y.count(8), 2);
        int[][] wrong = {{-1, 0}, {1000000, 0}, {0, -1}, {0, 21}, {LEAST, 0}, {MOST, 0}, {0, LEAST}, {0, MOST}};
        for (int[] w : wrong) {
            due.is("25: draws(" + w[0] + ", " + w[1] + ")", y.draws(w[0], w[1]), -2);
        }
        due.is("25: BAD is counted", y.count(0), wrong.length);
    }

    private static void p26Count() {
        CacheBounds x = new CacheBounds();
        x.ways(3);
        x.kind(1);
        x.price(42);
        Due.looks(x, 0, 1);
        for (int i = 0; i < 83; i++) {
            x.type('.');
        }
        x.ways(9);
        for (int i = 0; i < 7; i++) {
            x.undo();
        }
        x.look(2);
        x.kind(3);
        int[] want = {1, 2, 3, 80, 2, 3, 10, 1, 2};
        for (int what = 0; what < want.length; what++) {
            due.is("26: count(" + what + ")", x.count(what), want[what]);
        }
        for (int what : new int[] {-1, 9, LEAST, MOST}) {
            due.is("26: count(" + what + ")", x.count(what), -2);
        }
        due.is("26: BAD is counted", x.count(0), 5);
    }

    private static long folded(long... values) {
        long h = 1999;
        for (long v : values) {
            h = 31 * h + v;
        }
        return h;
    }

    private static void p27Digest() {
        CacheBounds x = new CacheBounds();
        due.is("27: of a new object", x.digest(), folded(0, 0, 0, 0, 2, 0, 10, 0, 0, 0, 0, 0, 0, 0, 0, 0, 0));
        Due.read(x, "f(a|b)2[c]");
        x.runs(0b1011);
        x.ways(0);
        x.undo();
        x.undo();
        x.look(5);
        x.look(3);
        x.price(77);
        due.is("27: of a used one", x.digest(),
                folded(1, 1, 0, 10, 2, 0, 77, 2, 3, 3, 5, 4, 1, 1, 1, 39, 0, 3, 3));
        due.is("27: it changes nothing", x.digest(),
                folded(1, 1, 0, 10, 2, 0, 77, 2, 3, 3, 5, 4, 1, 1, 1, 39, 0, 3, 3));
    }
}
