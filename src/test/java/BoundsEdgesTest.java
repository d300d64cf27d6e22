/** The boundary cases of promises 15 to 21, with what Terms say of them: one part for each sentence, both sides. */
public final class BoundsEdgesTest {
    private static final int LEAST = Integer.MIN_VALUE, MOST = Integer.MAX_VALUE;
    /** 80 bytes, three LOOPS within one another, 24 LOOKS that all miss, and 47 of work. */
    private static final String DEAREST = "9[9[9[" + "abcdef".repeat(4) + ".".repeat(47) + "]]]";
    private static final Due due = new Due();

    public static void main(String[] args) {
        upperBySureHitsAlone();
        upperLoopsAsOftenAsMayBe();
        upperOfTheDearest();
        lowerBySureMissesAlone();
        lowerLoopsNotAtAll();
        boundsThreeDeep();
        trulyFromTheCacheAsItIs();
        trulyByItsKind();
        trulyOverAllTimesOfALoop();
        trulyOfTheDearest();
        trulyOverBothOfAChoice();
        endsAtLeastOne();
        endsAtMost();
        endsByTheRowsOrder();
        manyAtLeastOne();
        manyAtMost();
        worstByWays1To3();
        worstByFromAnEmptyCache();
        worstByTheLeastWays();
        worstByWhat0To1();
        askingChangesNothing();
        due.end("BoundsEdgesTest");
    }

    private static CacheBounds with(int ways, int kind, String text) {
        CacheBounds x = due.with(text);
        x.ways(ways);
        x.kind(kind);
        return x;
    }

    // UPPER: "with SURE HITS 1, other LOOKS PRICE"
    private static void upperBySureHitsAlone() {
        due.is("15, nothing", due.with("").upper(), 0);
        due.is("15, a SURE HIT", due.with("aa").upper(), 11);
        due.is("15, an OPEN one", due.with("(a|)a").upper(), 20);
        due.is("15, a SURE MISS", due.with("ab").upper(), 20);
        due.is("15, a KEPT one", due.with("2[a]").upper(), 20);
        CacheBounds x = due.with("aab(c|a)a");
        for (int price : new int[] {2, 99}) {
            x.price(price);
            due.is("15, by PRICE " + price, x.upper(), price + 1 + price + price + price);
        }
        x.ways(3);
        due.is("15, the last is sure by 3 WAYS", x.upper(), 99 + 1 + 99 + 99 + 1);
        x.ways(1);
        due.is("15, by 1 WAY", x.upper(), 99 + 1 + 99 + 99 + 99);
    }

    // UPPER: "LOOPS done as often as they may be"
    private static void upperLoopsAsOftenAsMayBe() {
        for (int figure = 1; figure <= 9; figure++) {
            due.is("15, " + figure + " times", due.with(figure + "[.]").upper(), figure);
            due.is("15, " + figure + " times 2", due.with(figure + "[2[.]]").upper(), 2 * figure);
            due.is("15, " + figure + " times nothing", due.with(figure + "[]").upper(), 0);
        }
        due.is("15, one of both, not both", due.with("3[(.|..)]").upper(), 6);
        // Truly the LOOP makes it less (40 without it, 32 with it): it is done for UPPER all the same.
        due.is("15, even where it is less truly", due.with("ab1[a]ca").upper(), 10 + 10 + 1 + 10 + 10);
    }

    private static void upperOfTheDearest() {
        CacheBounds x = due.with(DEAREST);
        x.price(99);
        due.is("15, the dearest", x.upper(), 729 * (24 * 99 + 47));
        x.price(2);
        due.is("15, the dearest by 2", x.upper(), 729 * (24 * 2 + 47));
        CacheBounds y = due.with(".".repeat(80));
        due.is("15, 80 of work", y.upper(), 80);
    }

    // LOWER: "with SURE MISSES PRICE, other LOOKS 1"
    private static void lowerBySureMissesAlone() {
        due.is("16, nothing", due.with("").lower(), 0);
        due.is("16, a SURE HIT", due.with("aa").lower(), 11);
        due.is("16, an OPEN one", due.with("(a|)a").lower(), 1);
        due.is("16, a SURE MISS", due.with("ab").lower(), 20);
        CacheBounds x = due.with("ab(c|d)b");
        x.price(99);
        due.is("16, by 2 WAYS", x.lower(), 99 * 3 + 1);
        x.ways(1);
        due.is("16, by 1 WAY", x.lower(), 99 * 4);
        x.price(2);
        due.is("16, by PRICE 2", x.lower(), 8);
        due.is("16, the least of both", due.with("(aa|a)").lower(), 10);
        due.is("16, none of both", due.with("(aa|)").lower(), 0);
        due.is("16, not truly so little", due.with("(a|)a").best(), 10);
    }

    // LOWER: "LOOPS not at all"
    private static void lowerLoopsNotAtAll() {
        for (int figure = 1; figure <= 9; figure += 8) {
            due.is("16, a LOOP alone", due.with(figure + "[abc...]").lower(), 0);
            due.is("16, a LOOP between", due.with("." + figure + "[abc...].").lower(), 2);
        }
        due.is("16, behind a LOOP it may hit", due.with("1[a]a").lower(), 1);
        due.is("16, the dearest", due.with(DEAREST).lower(), 0);
        due.is("16, 80 of work", due.with(".".repeat(80)).lower(), 80);
    }

    // "3 ( and [ within one another": the innermost ROW counts too
    private static void boundsThreeDeep() {
        CacheBounds x = due.with("(((...|.)|....)|.....)");
        due.is("15, three ( deep", x.upper(), 5);
        due.is("16, three ( deep", x.lower(), 1);
        due.is("17, three ( deep", x.worst(), 5);
        due.is("18, three ( deep", x.best(), 1);
        due.is("20, three ( deep", x.many(), 4);
        CacheBounds first = due.with("(((.....|..)|...)|....)");
        due.is("15, the innermost is the most", first.upper(), 5);
        due.is("16, the innermost is the least", first.lower(), 2);
        CacheBounds second = due.with("(...|(..|(..|....)))");
        due.is("15, the innermost second is the most", second.upper(), 4);
        due.is("16, a second is the least", second.lower(), 2);
        due.is("16, the innermost second is the least", due.with("(...|(..|(..|.)))").lower(), 1);
        due.is("20, three deep in the second", second.many(), 4);
        due.is("20, three deep with LOOPS", due.with("(|(|9[]))((9[]|)|)").many(), 144);
        CacheBounds y = due.with("2[3[4[.]]]");
        due.is("15, three LOOPS deep", y.upper(), 24);
        due.is("16, three LOOPS deep", y.lower(), 0);
        due.is("17, three LOOPS deep", y.worst(), 24);
        due.is("18, three LOOPS deep", y.best(), 0);
        due.is("20, three LOOPS deep", y.many(), 1 + 156 + 156 * 156);
    }

    // TRULY: "from THE CACHE as it is"
    private static void trulyFromTheCacheAsItIs() {
        CacheBounds x = with(3, 0, "abc");
        int[] taken = {30, 21, 12, 3};
        for (int held = 0; held <= 3; held++) {
            due.is("17, with " + held + " held", x.worst(), taken[held]);
            due.is("18, with " + held + " held", x.best(), taken[held]);
            x.look(held % 3);
        }
        x.empties();
        due.is("17, empty again", x.worst(), 30);
        CacheBounds y = due.with("aa");
        due.is("17, UPPER is of an empty one", y.upper(), 11);
        y.look(0);
        due.is("17, WORST is not", y.worst(), 2);
        due.is("18, LOWER is not above it then", y.lower(), 11);
        due.is("18, BEST", y.best(), 2);
    }

    // TRULY: "by its KIND"
    private static void trulyByItsKind() {
        // Row c b a; a hit of a (the last one), d, then a, b or c again.
        String[] texts = {"abcada", "abcadb", "abcadc"};
        int[][] taken = {{42, 51, 42, 51}, {51, 42, 51, 42}, {42, 42, 42, 42}};
        for (int kind = 0; kind < 4; kind++) {
            for (int i = 0; i < texts.length; i++) {
                CacheBounds x = with(3, kind, texts[i]);
                due.is("17, '" + texts[i] + "' by kind " + kind, x.worst(), taken[i][kind]);
                due.is("18, '" + texts[i] + "' by kind " + kind, x.best(), taken[i][kind]);
            }
        }
    }

    // "a LOOP: done 0 to that many times"; TRULY: "over all WAYS"
    private static void trulyOverAllTimesOfALoop() {
        CacheBounds x = due.with("ab1[a]ca");
        due.is("17, the most by no time", x.worst(), 40);
        due.is("18, the least by one time", x.best(), 32);
        // By HALF a must be hit twice so as to outlive d and e.
        CacheBounds twice = with(3, 2, "abc2[a]dea");
        due.is("17, the most by one time of two", twice.worst(), 61);
        due.is("18, the least by two times of two", twice.best(), 53);
        CacheBounds once = with(3, 2, "abc1[a]dea");
        due.is("17, the most by one time of one", once.worst(), 61);
        due.is("18, the least by no time of one", once.best(), 60);
        for (int figure = 1; figure <= 9; figure++) {
            CacheBounds y = due.with(figure + "[.]");
            due.is("17, as often as " + figure, y.worst(), figure);
            due.is("18, not at all", y.best(), 0);
        }
    }

    private static void trulyOfTheDearest() {
        CacheBounds x = due.with(DEAREST);
        x.price(99);
        for (int ways = 1; ways <= 3; ways++) {
            x.ways(ways);
            due.is("17, the dearest by " + ways, x.worst(), 729 * (24 * 99 + 47));
            due.is("18, the dearest by " + ways, x.best(), 0);
            due.is("19, the dearest by " + ways, x.ends(), 2);
        }
        CacheBounds y = with(3, 0, "9[9[9[a]9[b]9[c]9[d]9[e]9[f]9[a]9[b]9[c]9[d]9[e]9[f]9[a]9[b]9[c]9[d]9[e]9[f]]]");
        due.is("17, 13122 LOOKS", y.worst(), 81 * 18 * (10 + 8));
        due.is("19, all rows there are", y.ends(), 1 + 6 + 30 + 120);
    }

    private static void trulyOverBothOfAChoice() {
        due.is("17, the second", due.with("(|.)").worst(), 1);
        due.is("17, the first", due.with("(.|)").worst(), 1);
        due.is("18, the first", due.with("(|.)").best(), 0);
        due.is("18, the second", due.with("(.|)").best(), 0);
        due.is("17, with work around", due.with("..(.|..).").worst(), 5);
        due.is("18, with work around", due.with("..(.|..).").best(), 4);
        due.is("17, 80 of work", due.with(".".repeat(80)).worst(), 80);
        due.is("18, 80 of work", due.with(".".repeat(80)).best(), 80);
        due.is("17, of 20 choices", due.with("(|.)".repeat(20)).worst(), 20);
        due.is("18, of 20 choices", due.with("(.|)".repeat(20)).best(), 0);
    }

    // Promise 19: "In how many rows THE CACHE can end, over all WAYS."
    private static void endsAtLeastOne() {
        due.is("19, nothing", due.with("").ends(), 1);
        due.is("19, no choice", due.with("abc").ends(), 1);
        due.is("19, a choice of work", due.with("(.|..)9[.]").ends(), 1);
        CacheBounds x = due.with("9[a]");
        due.is("19, empty or not", x.ends(), 2);
        x.look(0);
        due.is("19, it is held already", x.ends(), 1);
        x.look(1);
        due.is("19, it is held behind", x.ends(), 2);
        x.kind(1);
        due.is("19, it stays behind by FIFO", x.ends(), 1);
    }

    private static void endsAtMost() {
        CacheBounds x = with(3, 0, "3[((a|b)|(c|d))]3[(e|f)]3[((a|b)|(c|d))]3[(e|f)]3[((a|b)|(c|d))]");
        due.is("19, all rows of 3", x.ends(), 1 + 6 + 30 + 120);
        x.ways(2);
        due.is("19, all rows of 2", x.ends(), 1 + 6 + 30);
        x.ways(1);
        due.is("19, all rows of 1", x.ends(), 1 + 6);
        CacheBounds y = with(3, 0, "1[(a|b)]");
        due.is("19, a LOOP of 1", y.ends(), 1 + 2);
        Due.read(y, "2[(a|b)]");
        due.is("19, a LOOP of 2", y.ends(), 1 + 2 + 2);
        Due.read(y, "9[(a|b)]");
        due.is("19, a LOOP of 9", y.ends(), 1 + 2 + 2);
        Due.read(y, "2[(a|(b|c))]");
        due.is("19, three by 2", y.ends(), 1 + 3 + 6);
        Due.read(y, "3[(a|(b|c))]");
        due.is("19, three by 3", y.ends(), 1 + 3 + 6 + 6);
    }

    private static void endsByTheRowsOrder() {
        due.is("19, another order is another row", due.with("(ab|ba)").ends(), 2);
        due.is("19, the same row by both", due.with("(ab|cab)").ends(), 1);
        due.is("19, fewer is another row", due.with("(a|ba)").ends(), 2);
        due.is("19, what was taken counts not", due.with("(a...|a)").ends(), 1);
    }

    // Promise 20: "How many WAYS there are"
    private static void manyAtLeastOne() {
        due.is("20, nothing", due.with("").many(), 1);
        due.is("20, LOOKS and work", due.with("abc...").many(), 1);
        due.is("20, one choice", due.with("(|)").many(), 2);
        due.is("20, equal ways count each", due.with("(a|a)").many(), 2);
        for (int figure = 1; figure <= 9; figure++) {
            due.is("20, a LOOP of " + figure, due.with(figure + "[]").many(), figure + 1);
        }
        due.is("20, a LOOP of a choice", due.with("2[(|)]").many(), 1 + 2 + 4);
        due.is("20, a choice in the first", due.with("((|)|)").many(), 3);
        due.is("20, a choice in the second", due.with("(|(|))").many(), 3);
        due.is("20, a LOOP in the first", due.with("(9[]|)").many(), 11);
        due.is("20, a LOOP in the second", due.with("(|9[])").many(), 11);
        due.is("20, a LOOP in a LOOP", due.with("2[2[]]").many(), 1 + 3 + 9);
        due.is("20, behind one another", due.with("(|)2[](|)").many(), 12);
    }

    // Promise 20: "(1000000000 at most)"
    private static void manyAtMost() {
        due.is("20, one below", due.with("8[9[]]8[]").many(), 999999999);
        due.is("20, just so many", due.with("9[]".repeat(9)).many(), 1000000000);
        due.is("20, just so many in another way", due.with("(8[9[]]8[]|)").many(), 1000000000);
        due.is("20, one beyond", due.with("(8[9[]]8[]|(|))").many(), 1000000000);
        due.is("20, 1111111110", due.with("8[9[]]9[]").many(), 1000000000);
        due.is("20, a LOOP alone beyond", due.with("9[9[]]").many(), 1000000000);
        due.is("20, far beyond", due.with("9[9[9[]]]9[9[9[]]]9[9[9[]]]9[9[9[]]]9[9[9[]]]9[9[9[]]]").many(), 1000000000);
        due.is("20, beyond, then work", due.with("9[9[9[]9[]]]...").many(), 1000000000);
        due.is("20, beyond in one of both", due.with("(|9[9[]])").many(), 1000000000);
        due.is("20, beyond in both", due.with("(9[9[]]|9[9[]])").many(), 1000000000);
        due.is("20, 26 choices", due.with("(|)".repeat(26)).many(), 1 << 26);
        due.is("20, 512 million and more", due.with("(|)".repeat(8) + "9[(|)]1[]9[9[]]").many(), 1000000000);
    }

    // Promise 21: "WORST with WAYS (1 .. 3) as told (0: so many"
    private static void worstByWays1To3() {
        CacheBounds x = due.with("abcabc");
        int[] taken = {60, 60, 33};
        for (int n = 1; n <= 3; n++) {
            due.is("21, worstBy(0, " + n + ")", x.worstBy(0, n), taken[n - 1]);
        }
        for (int n : new int[] {0, 4, -1, 5, LEAST, MOST}) {
            due.is("21, worstBy(0, " + n + ")", x.worstBy(0, n), -2);
        }
        due.is("21, each BAD counts", x.count(0), 6);
        due.is("21, WAYS stay", x.count(4), 2);
        due.is("21, WORST stays", x.worst(), 60);
    }

    // Promise 21: "THE CACHE empty at the beginning"
    private static void worstByFromAnEmptyCache() {
        CacheBounds x = due.with("ab");
        Due.looks(x, 0, 1);
        due.is("21, WORST from what is held", x.worst(), 2);
        for (int n = 1; n <= 3; n++) {
            due.is("21, worstBy(0, " + n + ") from none", x.worstBy(0, n), 20);
        }
        due.is("21, the least from none", x.worstBy(1, 0), 1);
        due.is("21, THE CACHE stays", Due.row(x), 910);
        CacheBounds y = with(2, 1, "abaca");
        due.is("21, by its KIND", y.worstBy(0, 2), 41);
        y.kind(0);
        due.is("21, by another KIND", y.worstBy(0, 2), 32);
        y.price(99);
        due.is("21, by another PRICE", y.worstBy(0, 2), 3 * 99 + 2);
    }

    // Promise 21: "what 1: the least WAYS by which that is least"
    private static void worstByTheLeastWays() {
        due.is("21, all the same", due.with("abcdef").worstBy(1, 0), 1);
        due.is("21, nothing", due.with("").worstBy(1, 0), 1);
        due.is("21, one LINE", due.with("aa").worstBy(1, 0), 1);
        due.is("21, 2 and 3 the same", due.with("aba").worstBy(1, 0), 2);
        due.is("21, 1 and 2 the same", due.with("abca").worstBy(1, 0), 3);
        due.is("21, each less", due.with("abacba").worstBy(1, 0), 3);
        due.is("21, by ways that differ", due.with("(aba|abca)").worstBy(1, 0), 3);
        CacheBounds x = due.with("aba");
        x.ways(1);
        x.look(0);
        due.is("21, the WAYS there are count not", x.worstBy(1, 0), 2);
    }

    // Promise 21: "BAD (of what 1 n counts not)"
    private static void worstByWhat0To1() {
        CacheBounds x = due.with("aba");
        for (int n : new int[] {0, 1, 3, 4, -1, LEAST, MOST}) {
            due.is("21, worstBy(1, " + n + ")", x.worstBy(1, n), 2);
        }
        due.is("21, none of these was refused", x.count(0), 0);
        for (int what : new int[] {-1, 2, -2, 3, LEAST, MOST}) {
            due.is("21, worstBy(" + what + ", 1)", x.worstBy(what, 1), -2);
            due.is("21, worstBy(" + what + ", 0)", x.worstBy(what, 0), -2);
        }
        due.is("21, each BAD counts once", x.count(0), 12);
    }

    private static void askingChangesNothing() {
        CacheBounds x = with(3, 2, "a2[(b|c)]");
        Due.looks(x, 0, 4, 1);
        long before = x.digest();
        for (int i = 0; i < 2; i++) {
            due.is("15, again", x.upper(), 30);
            due.is("16, again", x.lower(), 10);
            due.is("17, again", x.worst(), 12);
            due.is("18, again", x.best(), 1);
            due.is("19, again", x.ends(), 3);
            due.is("20, again", x.many(), 7);
            due.is("21, again", x.worstBy(0, 3), 30);
            due.is("21, again", x.worstBy(1, 3), 1);
        }
        due.is("15 to 21, all stays", x.digest(), before);
        due.is("15 to 21, the row stays", Due.row(x), 9140);
    }
}
