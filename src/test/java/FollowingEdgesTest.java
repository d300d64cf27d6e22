/** The boundary cases of FOLLOWING (Terms) and of promises 12 to 14: one part for each sentence, both sides. */
public final class FollowingEdgesTest {
    private static final int LEAST = Integer.MIN_VALUE, MOST = Integer.MAX_VALUE;
    private static final String LINES = "abcdef";
    private static final Due due = new Due();

    public static void main(String[] args) {
        atTheBeginningAllAreWays();
        alwaysAsForLruAndEmpty();
        mustOfThoseThatAreYounger();
        mustOfThoseOfTheSameAge();
        mayOfThoseThatAreNotOlder();
        mayOfThoseOfTheSameAge();
        waysAtMost();
        mustTakesTheOlderAge();
        mayTakesTheYoungerAge();
        untilThatChangesNothing();
        theFigureIsNoBound();
        mayUntilThatChangesNothing();
        behindItIsWhatGoesIntoIt();
        loopsWithinLoops();
        choicesThreeDeep();
        ofTheProgramThatWasReadLast();
        sureHitBelowWays();
        sureMissAtWays();
        inALoopAtLast();
        keptByNoMoreThanWaysLines();
        keptInALoopAlone();
        keptByTheInnermost();
        sureWhat0To3();
        behindSort0To1();
        due.end("FollowingEdgesTest");
    }

    private static CacheBounds with(int ways, String text) {
        CacheBounds x = due.with(text);
        x.ways(ways);
        return x;
    }

    /** The ages behind a text, a digit a line from a to f. */
    private static void behind(int ways, String text, String must, String may) {
        CacheBounds x = with(ways, text);
        for (int line = 0; line < 6; line++) {
            String call = "'" + text + "' by " + ways + ", behind LINE " + line;
            due.is("MUST of " + call, x.behind(0, line), must.charAt(line) - '0');
            due.is("MAY of " + call, x.behind(1, line), may.charAt(line) - '0');
        }
    }

    /** What a look is (0 OPEN, 1 a SURE HIT, 2 a SURE MISS), MUST and MAY there. */
    private static void at(int ways, String text, int k, int sort, int must, int may) {
        CacheBounds x = with(ways, text);
        String call = "'" + text + "' by " + ways + ", LOOK " + k;
        due.is("what it is: " + call, x.of(k, 1), sort);
        due.is("MUST: " + call, x.of(k, 2), must);
        due.is("MAY: " + call, x.of(k, 3), may);
    }

    // "At the beginning all are WAYS."
    private static void atTheBeginningAllAreWays() {
        behind(1, "", "111111", "111111");
        behind(2, "", "222222", "222222");
        behind(3, "", "333333", "333333");
        for (int ways = 1; ways <= 3; ways++) {
            for (int line = 0; line < 6; line++) {
                at(ways, LINES.substring(line, line + 1), 0, 2, ways, ways);
            }
        }
    }

    // "(always as for LRU, the CACHE empty at the beginning)"
    private static void alwaysAsForLruAndEmpty() {
        for (int kind = 0; kind < 4; kind++) {
            CacheBounds x = with(3, "abca");
            x.kind(kind);
            Due.looks(x, 5, 0, 1);
            due.is("the first LOOK misses by kind " + kind, x.of(0, 1), 2);
            due.is("the second LOOK misses by kind " + kind, x.of(1, 1), 2);
            due.is("the last LOOK hits by kind " + kind, x.of(3, 1), 1);
            int[] ages = {0, 2, 1, 3, 3, 3};
            for (int line = 0; line < 6; line++) {
                due.is("MUST by kind " + kind, x.behind(0, line), ages[line]);
                due.is("MAY by kind " + kind, x.behind(1, line), ages[line]);
            }
            due.is("UPPER by kind " + kind, x.upper(), 31);
            due.is("LOWER by kind " + kind, x.lower(), 31);
        }
    }

    // "in MUST all that are younger than x (below its age) are 1 older, x is 0"
    private static void mustOfThoseThatAreYounger() {
        behind(3, "abc", "210333", "210333");
        behind(3, "abcc", "210333", "210333");
        behind(3, "abcb", "201333", "201333");
        behind(3, "abca", "021333", "021333");
        behind(3, "abcd", "321033", "321033");
    }

    private static void mustOfThoseOfTheSameAge() {
        // Ahead of the last look a and b are both 1 in MUST, both 0 in MAY.
        behind(3, "(ab|ba)", "113333", "003333");
        behind(3, "(ab|ba)a", "013333", "013333");
        behind(3, "(ab|ba)b", "103333", "103333");
        behind(2, "(ab|ba)a", "012222", "012222");
    }

    // "in MAY all that are not older than x, but x .., are 1 older"
    private static void mayOfThoseThatAreNotOlder() {
        // MAY ahead of the last look: a 2, b 1, c 0.
        behind(3, "abcb", "201333", "201333");
        // MAY ahead of the last look: a 1, b 0, c 0; a is older than b and stays.
        behind(3, "a(b|c)", "133333", "100333");
        behind(3, "a(b|c)b", "203333", "101333");
    }

    private static void mayOfThoseOfTheSameAge() {
        // MAY ahead of the last look: a 1, b 1, c 0.
        behind(3, "(ab|ba)c", "220333", "110333");
        behind(3, "(ab|ba)ca", "021333", "021333");
        behind(2, "(a|b)a", "022222", "012222");
        // x itself is of its own age and becomes 0 all the same.
        behind(1, "aa", "011111", "011111");
    }

    // "(if x's age is WAYS: all), are 1 older, WAYS at most"
    private static void waysAtMost() {
        behind(1, "abcdef", "111110", "111110");
        behind(2, "abcdef", "222210", "222210");
        behind(3, "abcdef", "333210", "333210");
        behind(3, "abcdefa", "033321", "033321");
        // c is new: a grows from 1 to 2, the others stay at WAYS.
        behind(2, "abc", "210222", "210222");
        behind(2, "(a|b)c", "220222", "110222");
        behind(2, "(a|b)cd", "221022", "221022");
    }

    // "Where two come together: MUST the older age"
    private static void mustTakesTheOlderAge() {
        behind(3, "(abc|acb)", "211333", "200333");
        behind(3, "(ab|a)", "133333", "003333");
        behind(3, "(a|ab)", "133333", "003333");
        behind(3, "(|a)", "333333", "033333");
        behind(3, "(a|)", "333333", "033333");
        behind(3, "a(b|)", "133333", "003333");
        behind(3, "a(|b)", "133333", "003333");
        behind(3, "(|)", "333333", "333333");
    }

    // "MAY the younger one"
    private static void mayTakesTheYoungerAge() {
        behind(3, "(abc|cab)", "212333", "100333");
        behind(2, "(ab|b)", "202222", "102222");
        behind(2, "(b|ab)", "202222", "102222");
        behind(1, "(a|b)", "111111", "001111");
    }

    // "A LOOP: what goes into it comes together with what comes out of its ROW, until that changes nothing"
    private static void untilThatChangesNothing() {
        // MUST of a grows in each round: 0, 1, 2, 3.
        behind(1, "a9[b]", "111111", "001111");
        behind(2, "a9[b]", "222222", "002222");
        behind(3, "a9[b]", "333333", "003333");
        behind(3, "a9[(b|c)]", "333333", "000333");
        behind(3, "a9[(a|b)]", "333333", "003333");
        // b is in for sure, so that a doesn't grow beyond it.
        behind(3, "ab9[b]", "103333", "103333");
        // In the first round b becomes 1; of the same age as a, it doesn't grow in the second.
        behind(3, "ab9[a]", "113333", "003333");
        behind(2, "a9[]", "022222", "022222");
    }

    private static void theFigureIsNoBound() {
        for (int figure = 1; figure <= 9; figure++) {
            behind(3, "a" + figure + "[b]", "333333", "003333");
            at(3, "a" + figure + "[b]a", 2, 0, 3, 0);
            at(3, "a" + figure + "[a]a", 2, 1, 0, 0);
            at(2, figure + "[(eb|)a]", 0, 0, 2, 1);
        }
    }

    private static void mayUntilThatChangesNothing() {
        // e comes out with 2 in the first round, with 1 in the second; the third changes nothing.
        behind(2, "9[(eb|)a]", "222222", "012212");
        at(2, "9[(eb|)a]", 0, 0, 2, 1);
        at(2, "9[(eb|)a]", 1, 2, 2, 2);
        at(2, "9[(eb|)a]", 2, 0, 2, 0);
        behind(3, "9[ab]", "333333", "103333");
        at(3, "9[ab]", 0, 0, 3, 1);
        at(3, "9[ab]", 1, 0, 3, 1);
    }

    // "behind it is what goes into it then"
    private static void behindItIsWhatGoesIntoIt() {
        behind(2, "9[a]", "222222", "022222");
        behind(2, "a9[a]", "022222", "022222");
        behind(2, "a9[bc]", "222222", "010222");
        at(2, "9[a]a", 1, 0, 2, 0);
        at(2, "a9[a]a", 2, 1, 0, 0);
        at(2, "9[a]b", 1, 2, 2, 2);
    }

    private static void loopsWithinLoops() {
        // The inner LOOP is followed anew for what goes into it in each round of the outer one.
        at(3, "a2[2[2[b]]]a", 2, 0, 3, 0);
        at(2, "2[a2[b]]", 0, 0, 2, 0);
        at(2, "2[a2[b]]", 1, 0, 2, 0);
        behind(2, "2[a2[b]]", "222222", "002222");
        at(1, "a1[1[a]b]a", 1, 0, 1, 0);
        at(1, "a1[1[a]]b", 1, 1, 0, 0);
    }

    private static void choicesThreeDeep() {
        behind(2, "((( a|b)|)|)", "222222", "002222");
        behind(2, "(|(|(|ab)))", "222222", "102222");
        behind(2, "a(((b|c)|)|)", "122222", "000222");
        behind(2, "1[1[(a|b)]]", "222222", "002222");
        at(2, "a(((ab|c)|)|)a", 4, 1, 1, 0);
        at(1, "a(((b|a)|)|)a", 3, 0, 1, 0);
    }

    private static void ofTheProgramThatWasReadLast() {
        CacheBounds x = due.with("aa");
        due.is("12, a SURE HIT", x.of(1, 1), 1);
        due.is("14, MUST of b", x.behind(0, 1), 2);
        due.is("13, SURE HITS", x.sure(1), 1);
        Due.read(x, "bc");
        due.is("12, a SURE MISS", x.of(1, 1), 2);
        due.is("14, MUST of b now", x.behind(0, 1), 1);
        due.is("13, no SURE HITS now", x.sure(1), 0);
        Due.read(x, "bb(");
        due.is("12, the same by a FAULT", x.of(1, 1), 2);
        x.ways(1);
        due.is("14, MUST of c by 1", x.behind(0, 2), 0);
        due.is("14, MUST of b by 1", x.behind(0, 1), 1);
        x.ways(3);
        due.is("14, MUST of a by 3", x.behind(0, 0), 3);
        x.undo();
        due.is("14, MUST of a by 1 again", x.behind(0, 0), 1);
        CacheBounds y = due.with("2[abc]");
        due.is("13, none is KEPT", y.sure(3), 0);
        Due.read(y, "2[d]");
        due.is("12, one is KEPT: the LINES of another program count not", y.of(0, 4), 1);
        Due.read(y, "2[abc)");
        due.is("12, nor those of a FAULT", y.of(0, 4), 1);
        Due.read(y, "2[e]");
        due.is("12, nor behind a FAULT", y.of(0, 4), 1);
    }

    // "a SURE HIT, if MUST of its LINE is below WAYS where it is come to"
    private static void sureHitBelowWays() {
        at(1, "aa", 1, 1, 0, 0);
        at(1, "aba", 2, 2, 1, 1);
        at(2, "aba", 2, 1, 1, 1);
        at(2, "abca", 3, 2, 2, 2);
        at(3, "abca", 3, 1, 2, 2);
        at(3, "abcda", 4, 2, 3, 3);
        at(3, "(abc|bac)a", 6, 1, 2, 1);
        at(3, "(abcd|bac)a", 7, 0, 3, 1);
    }

    // "a SURE MISS, if MAY of it is WAYS; else OPEN"
    private static void sureMissAtWays() {
        at(1, "(a|b)a", 2, 0, 1, 0);
        at(1, "(ab|b)a", 3, 2, 1, 1);
        at(2, "(ab|cb)a", 4, 0, 2, 1);
        at(2, "(abd|cbd)a", 6, 2, 2, 2);
        at(3, "(abc|bc)a", 5, 0, 3, 2);
        at(3, "(abcd|bcd)a", 7, 2, 3, 3);
    }

    // "(in a LOOP: at last)"
    private static void inALoopAtLast() {
        // By the first round alone it would be a SURE HIT (a is 0), or a SURE MISS (b is not there).
        at(1, "a9[ab]", 1, 0, 1, 0);
        at(2, "9[b]", 0, 0, 2, 0);
        at(2, "a9[abc]", 1, 0, 2, 0);
        at(3, "a9[abc]", 1, 1, 2, 0);
        at(2, "9[abc]", 0, 2, 2, 2);
        at(3, "9[abc]", 0, 0, 3, 2);
    }

    private static void kept(int ways, String text, String each) {
        CacheBounds x = with(ways, text);
        int sum = 0;
        for (int k = 0; k < each.length(); k++) {
            due.is("KEPT: '" + text + "' by " + ways + ", LOOK " + k, x.of(k, 4), each.charAt(k) - '0');
            sum += each.charAt(k) - '0';
        }
        due.is("how many are KEPT: '" + text + "' by " + ways, x.sure(3), sum);
    }

    // KEPT: "in whose ROW no more than WAYS LINES are looked at"
    private static void keptByNoMoreThanWaysLines() {
        kept(1, "9[a]", "1");
        kept(1, "9[ab]", "00");
        kept(2, "9[a]", "1");
        kept(2, "9[ab]", "11");
        kept(2, "9[abc]", "000");
        kept(3, "9[ab]", "11");
        kept(3, "9[abc]", "111");
        kept(3, "9[abcd]", "0000");
        kept(3, "9[abcdef]", "000000");
        kept(2, "9[(a|b)]", "11");
        kept(1, "9[(a|b)]", "00");
        kept(2, "9[(a|b)(b|a)]", "1111");
        // A LINE counts once, and a SURE HIT is not KEPT.
        kept(1, "9[aaa]", "100");
        kept(2, "9[aba]", "110");
        kept(1, "9[aab]", "000");
    }

    // KEPT: "a LOOK that is not a SURE HIT in a LOOP"
    private static void keptInALoopAlone() {
        kept(2, "ab", "00");
        kept(2, "(a|b)a", "000");
        kept(2, "c9[a]b", "010");
        kept(1, "c9[a]b", "010");
        kept(2, "a9[a]", "00");
        kept(2, "b9[a]", "01");
        kept(2, "a1[]b", "00");
    }

    // KEPT: "(the innermost around it)"
    private static void keptByTheInnermost() {
        kept(1, "2[3[a]b]", "10");
        kept(1, "2[a3[b]]", "01");
        kept(2, "2[3[ab]c]", "110");
        kept(2, "2[3[ab]a]", "111");
        kept(1, "2[3[4[a]b]c]", "100");
        kept(2, "2[3[4[a]b]c]", "110");
        kept(3, "2[3[4[a]b]c]", "111");
        kept(1, "2[(3[a]|b)]", "10");
    }

    // Promise 13: what may be asked, "BAD."
    private static void sureWhat0To3() {
        // SURE MISSES: a, b; a SURE HIT: a; OPEN: c, d, which are KEPT, and the last a.
        CacheBounds x = due.with("aba4[(c|d)]a");
        int[] sure = {3, 1, 2, 2};
        for (int what = 0; what <= 3; what++) {
            due.is("13, sure(" + what + ")", x.sure(what), sure[what]);
        }
        for (int what : new int[] {-1, 4, -2, 5, LEAST, MOST}) {
            due.is("13, sure(" + what + ")", x.sure(what), -2);
        }
        due.is("13, each BAD counts", x.count(0), 6);
        CacheBounds most = due.with("abcdefabcdefabcdefabcdef");
        due.is("13, 24 SURE MISSES", most.sure(2), 24);
        due.is("13, no other", most.sure(0) + most.sure(1) + most.sure(3), 0);
        due.is("13, 23 SURE HITS", due.with("a".repeat(24)).sure(1), 23);
        CacheBounds open = due.with("2[" + "(a|b)".repeat(12) + "]");
        due.is("13, 24 OPEN", open.sure(0), 24);
        due.is("13, 24 KEPT", open.sure(3), 24);
        due.is("13, none sure", open.sure(1) + open.sure(2), 0);
    }

    // Promise 14: "MUST (sort 0), MAY (1) of a LINE behind THE PROGRAM. BAD."
    private static void behindSort0To1() {
        CacheBounds x = due.with("(a|f)");
        for (int line : new int[] {0, 5}) {
            due.is("14, behind(0, " + line + ")", x.behind(0, line), 2);
            due.is("14, behind(1, " + line + ")", x.behind(1, line), 0);
        }
        int[][] wrong = {{-1, 0}, {2, 0}, {0, -1}, {0, 6}, {1, -1}, {1, 6}, {LEAST, 5}, {MOST, 5}, {0, LEAST},
            {1, MOST}, {2, 6}};
        for (int[] w : wrong) {
            due.is("14, behind(" + w[0] + ", " + w[1] + ")", x.behind(w[0], w[1]), -2);
        }
        due.is("14, each BAD counts once", x.count(0), wrong.length);
    }
}
