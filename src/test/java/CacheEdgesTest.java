/** The boundary cases of THE CACHE (Terms) and of promises 1 to 7: one part for each sentence, both sides. */
public final class CacheEdgesTest {
    private static final int LEAST = Integer.MIN_VALUE, MOST = Integer.MAX_VALUE;
    private static final Due due = new Due();

    public static void main(String[] args) {
        asToldAtFirst();
        theProgramIsAnEmptyRowAtFirst();
        linesAre0To5();
        waysAre1To3();
        kindIs0To3();
        priceIs2To99();
        holdsSoManyAtMost();
        holdsEachOnce();
        theLastGoesOutOnlyBeyondWays();
        lruComesToTheFront();
        fifoStays();
        halfGoesOnePlace();
        onceComesUnlessLastOfAsManyAsWays();
        onceByOneWay();
        hitTakes1MissThePrice();
        whatIsBeyondGoesOutFromBehind();
        nothingComesBackByMoreWays();
        emptiesTellsHowMany();
        heldIsNoneBeyond();
        all512CallsAnswer();
        due.end("CacheEdgesTest");
    }

    /** The cache with so many ways that holds lines, the last looked at in front; its kind told behind. */
    private static CacheBounds holding(int ways, int kind, int... lines) {
        CacheBounds x = new CacheBounds();
        x.ways(ways);
        Due.looks(x, lines);
        x.kind(kind);
        return x;
    }

    // Promise 1: "As told"
    private static void asToldAtFirst() {
        CacheBounds x = new CacheBounds();
        int[] counts = {0, 0, 0, 0, 2, 0, 10, 0, 0};
        for (int what = 0; what < counts.length; what++) {
            due.is("1, at first count(" + what + ")", x.count(what), counts[what]);
        }
        due.is("1, empty at first", x.held(0), -1);
        due.is("1, 2 at first: what ways(2) tells", x.ways(2), 2);
        due.is("1, 0 at first: what kind(0) tells", x.kind(0), 0);
        due.is("1, 10 at first: what price(10) tells", x.price(10), 10);
        CacheBounds y = new CacheBounds();
        due.is("1, nothing can be undone at first", y.undo(), -3);
        due.is("1, a MISS takes 10 at first", y.look(0), 10);
        Due.looks(y, 1, 0, 2);
        due.is("1, by 2 WAYS and LRU at first", Due.row(y), 920);
        CacheBounds other = new CacheBounds();
        due.is("1, another one is empty at first too", Due.row(other), 9);
        due.is("1, an emptying at first", other.empties(), 0);
        due.is("1, an empty TEXT at first", other.clear(), 0);
    }

    // Promise 1: "THE PROGRAM is an empty ROW"
    private static void theProgramIsAnEmptyRowAtFirst() {
        CacheBounds x = new CacheBounds();
        for (int what = 0; what < 5; what++) {
            due.is("1, told(" + what + ") of an empty ROW", x.told(what), 0);
        }
        for (int what = 0; what < 4; what++) {
            due.is("1, sure(" + what + ") of an empty ROW", x.sure(what), 0);
        }
        for (int line = 0; line < 6; line++) {
            due.is("1, MUST behind an empty ROW", x.behind(0, line), 2);
            due.is("1, MAY behind an empty ROW", x.behind(1, line), 2);
        }
        due.is("1, of(0, 0) of an empty ROW", x.of(0, 0), -2);
        due.is("1, UPPER", x.upper(), 0);
        due.is("1, LOWER", x.lower(), 0);
        due.is("1, WORST", x.worst(), 0);
        due.is("1, BEST", x.best(), 0);
        due.is("1, one end", x.ends(), 1);
        due.is("1, one way", x.many(), 1);
        due.is("1, worstBy(0, 3)", x.worstBy(0, 3), 0);
        due.is("1, worstBy(1, 0)", x.worstBy(1, 0), 1);
        due.is("1, a draw", x.draws(1, 20), 0);
        due.is("1, a run", x.runs(1048575), 0);
        due.is("1, nothing was asked", x.ran(2), 0);
        due.is("1, the row stays", x.held(0), -1);
    }

    // "LINES are 0 .. 5"
    private static void linesAre0To5() {
        for (int line = 0; line <= 5; line++) {
            CacheBounds x = new CacheBounds();
            due.is("6, look(" + line + ")", x.look(line), 10);
            due.is("6, it is held", x.held(0), line);
        }
        CacheBounds x = holding(3, 0, 0, 5);
        for (int line : new int[] {-1, 6, 7, -2, LEAST, MOST}) {
            due.is("6, look(" + line + ")", x.look(line), -2);
            due.is("6, the row stays by look(" + line + ")", Due.row(x), 950);
        }
        due.is("6, each BAD counts", x.count(0), 6);
    }

    // Terms, THE CACHE: "WAYS (1 .. 3; 2 at first)"
    private static void waysAre1To3() {
        for (int n = 1; n <= 3; n++) {
            CacheBounds x = new CacheBounds();
            due.is("2, ways(" + n + ")", x.ways(n), 2);
            due.is("2, WAYS", x.count(4), n);
            due.is("2, what they were", x.ways(2), n);
        }
        for (int before = 1; before <= 3; before++) {
            CacheBounds x = holding(before, 0, 3);
            for (int n : new int[] {0, 4, -1, 5, LEAST, MOST}) {
                due.is("2, ways(" + n + ")", x.ways(n), -2);
                due.is("2, WAYS stay by ways(" + n + ")", x.count(4), before);
            }
            due.is("2, the row stays", Due.row(x), 93);
            due.is("2, each BAD counts", x.count(0), 6);
        }
    }

    // Terms, THE CACHE: "a KIND (0 .. 3; 0 at first)"
    private static void kindIs0To3() {
        int before = 0;
        CacheBounds x = new CacheBounds();
        for (int k : new int[] {3, 0, 2, 1, 3, 3}) {
            due.is("3, kind(" + k + ")", x.kind(k), before);
            due.is("3, KIND", x.count(5), k);
            before = k;
        }
        for (int k : new int[] {-1, 4, -2, 5, LEAST, MOST}) {
            due.is("3, kind(" + k + ")", x.kind(k), -2);
            due.is("3, KIND stays by kind(" + k + ")", x.count(5), 3);
        }
        due.is("3, each BAD counts", x.count(0), 6);
    }

    // Terms, THE CACHE: "PRICE (2 .. 99; 10 at first)"
    private static void priceIs2To99() {
        CacheBounds x = new CacheBounds();
        due.is("4, price(2)", x.price(2), 10);
        due.is("4, price(99)", x.price(99), 2);
        due.is("4, price(3)", x.price(3), 99);
        due.is("4, price(98)", x.price(98), 3);
        for (int n : new int[] {1, 100, 0, -1, LEAST, MOST}) {
            due.is("4, price(" + n + ")", x.price(n), -2);
            due.is("4, PRICE stays by price(" + n + ")", x.count(6), 98);
        }
        due.is("4, each BAD counts", x.count(0), 6);
    }

    // Terms, THE CACHE: "it holds so many LINES at most, in a row"
    private static void holdsSoManyAtMost() {
        for (int ways = 1; ways <= 3; ways++) {
            for (int kind = 0; kind < 4; kind++) {
                CacheBounds x = new CacheBounds();
                x.ways(ways);
                x.kind(kind);
                for (int line = 0; line < 6; line++) {
                    due.is("a MISS of " + line, x.look(line), 10);
                    int held = Math.min(line + 1, ways);
                    due.is("LINES held by " + ways + " WAYS", x.count(7), held);
                    due.is("the last one", x.held(held - 1), line + 1 - held);
                    due.is("none behind it", x.held(held), -1);
                }
            }
        }
    }

    // Terms, THE CACHE: "each once"
    private static void holdsEachOnce() {
        for (int kind = 0; kind < 4; kind++) {
            CacheBounds x = new CacheBounds();
            x.ways(3);
            x.kind(kind);
            for (int line : new int[] {4, 4, 4}) {
                x.look(line);
                due.is("one LINE alone by kind " + kind, Due.row(x), 94);
            }
            for (int line : new int[] {1, 4, 1, 4, 0, 4, 1, 0, 0, 2, 0, 4, 1, 1}) {
                x.look(line);
                int lines = 0;
                for (int place = 0; place < x.count(7); place++) {
                    lines |= 1 << x.held(place);
                }
                due.is("each once by kind " + kind, Integer.bitCount(lines), x.count(7));
            }
        }
    }

    // Terms, THE CACHE: "it comes to the front, and if there are more than WAYS, the last one goes out"
    private static void theLastGoesOutOnlyBeyondWays() {
        for (int kind = 0; kind < 4; kind++) {
            due.is("of 3 none goes out at the third", row(holding(3, kind, 0, 1), 5), 9510);
            due.is("of 3 one goes out at the fourth", row(holding(3, kind, 0, 1, 2), 5), 9521);
            due.is("of 2 none goes out at the second", row(holding(2, kind, 0), 5), 950);
            due.is("of 2 one goes out at the third", row(holding(2, kind, 0, 1), 5), 951);
            due.is("of 1 none goes out at the first", row(holding(1, kind), 5), 95);
            due.is("of 1 one goes out at the second", row(holding(1, kind, 0), 5), 95);
        }
    }

    private static int row(CacheBounds x, int line) {
        x.look(line);
        return Due.row(x);
    }

    // Terms, THE CACHE: "0 LRU: it comes to the front"
    private static void lruComesToTheFront() {
        due.is("LRU, the front one", row(holding(3, 0, 0, 1, 2), 2), 9210);
        due.is("LRU, the middle one", row(holding(3, 0, 0, 1, 2), 1), 9120);
        due.is("LRU, the last one", row(holding(3, 0, 0, 1, 2), 0), 9021);
        due.is("LRU, the last one of two", row(holding(2, 0, 0, 1), 0), 901);
        due.is("LRU, the last one of fewer", row(holding(3, 0, 0, 1), 0), 901);
    }

    // Terms, THE CACHE: "1 FIFO: the row stays"
    private static void fifoStays() {
        for (int line = 0; line < 3; line++) {
            due.is("FIFO, at " + line, row(holding(3, 1, 0, 1, 2), line), 9210);
        }
        due.is("FIFO, of fewer", row(holding(3, 1, 0, 1), 0), 910);
        CacheBounds x = holding(2, 1, 0, 1);
        Due.looks(x, 0, 0, 0, 2);
        due.is("FIFO, the first that came goes out", Due.row(x), 921);
    }

    // Terms, THE CACHE: "2 HALF: it goes one place nearer to the front (the front one stays)"
    private static void halfGoesOnePlace() {
        due.is("HALF, the front one", row(holding(3, 2, 0, 1, 2), 2), 9210);
        due.is("HALF, the middle one", row(holding(3, 2, 0, 1, 2), 1), 9120);
        due.is("HALF, the last one", row(holding(3, 2, 0, 1, 2), 0), 9201);
        due.is("HALF, the front one of two", row(holding(3, 2, 0, 1), 1), 910);
        due.is("HALF, the last one of two", row(holding(3, 2, 0, 1), 0), 901);
        due.is("HALF, one alone", row(holding(3, 2, 4), 4), 94);
        due.is("HALF, by one way", row(holding(1, 2, 4), 4), 94);
    }

    // Terms, THE CACHE: "unless it is the last one of as many as WAYS (then the row stays)"
    private static void onceComesUnlessLastOfAsManyAsWays() {
        due.is("ONCE, the front one of 3", row(holding(3, 3, 0, 1, 2), 2), 9210);
        due.is("ONCE, the middle one of 3", row(holding(3, 3, 0, 1, 2), 1), 9120);
        due.is("ONCE, the last one of 3", row(holding(3, 3, 0, 1, 2), 0), 9210);
        due.is("ONCE, the last one of 2 by 3 WAYS", row(holding(3, 3, 0, 1), 0), 901);
        due.is("ONCE, the front one of 2 by 3 WAYS", row(holding(3, 3, 0, 1), 1), 910);
        due.is("ONCE, the last one of 2 by 2 WAYS", row(holding(2, 3, 0, 1), 0), 910);
        due.is("ONCE, the front one of 2 by 2 WAYS", row(holding(2, 3, 0, 1), 1), 910);
        CacheBounds x = holding(2, 3, 0, 1);
        x.ways(3);
        due.is("ONCE, the last of what was full", row(x, 0), 901);
        CacheBounds y = holding(3, 3, 0, 1, 2);
        y.ways(2);
        due.is("ONCE, the last of what is full now", row(y, 1), 921);
        due.is("ONCE, it takes 1 all the same", y.look(1), 1);
        due.is("ONCE, and goes out next", row(y, 5), 952);
    }

    private static void onceByOneWay() {
        CacheBounds x = holding(1, 3, 0);
        due.is("ONCE, the only one by one way is a HIT", x.look(0), 1);
        due.is("ONCE, the row stays", Due.row(x), 90);
        due.is("ONCE, another by one way is a MISS", x.look(1), 10);
        due.is("ONCE, it is the only one", Due.row(x), 91);
    }

    // Terms, THE CACHE: "A HIT takes 1, a MISS as much as PRICE"
    private static void hitTakes1MissThePrice() {
        for (int kind = 0; kind < 4; kind++) {
            for (int price : new int[] {2, 10, 99}) {
                CacheBounds x = new CacheBounds();
                x.kind(kind);
                x.price(price);
                due.is("6, a MISS", x.look(0), price);
                due.is("6, a HIT of the front one", x.look(0), 1);
                due.is("6, another MISS", x.look(5), price);
                due.is("6, a HIT of the last one", x.look(0), 1);
                x.price(50);
                due.is("6, a HIT by another PRICE", x.look(0), 1);
                due.is("6, a MISS by another PRICE", x.look(3), 50);
            }
        }
    }

    // Promise 2: "what is beyond goes out from behind"
    private static void whatIsBeyondGoesOutFromBehind() {
        int[][] lines = {{}, {3}, {3, 4}, {3, 4, 5}};
        int[][] due3 = {{9, 9, 9}, {93, 93, 93}, {94, 943, 943}, {95, 954, 9543}};
        for (int held = 0; held <= 3; held++) {
            for (int n = 1; n <= 3; n++) {
                CacheBounds x = holding(3, 0, lines[held]);
                due.is("2, ways(" + n + ")", x.ways(n), 3);
                due.is("2, of " + held + " LINES by ways(" + n + ")", Due.row(x), due3[held][n - 1]);
                due.is("2, so many are held", x.count(7), Math.min(held, n));
                due.is("2, what went out is a MISS", held == 3 ? x.look(3) : 10, n == 3 && held == 3 ? 1 : 10);
            }
        }
        CacheBounds x = holding(2, 0, 3, 4);
        x.ways(1);
        due.is("2, from 2 to 1", Due.row(x), 94);
    }

    private static void nothingComesBackByMoreWays() {
        CacheBounds x = holding(3, 0, 3, 4, 5);
        x.ways(1);
        due.is("2, what they were", x.ways(3), 1);
        due.is("2, nothing comes back", Due.row(x), 95);
        due.is("2, what went out is a MISS", x.look(4), 10);
        due.is("2, the row", Due.row(x), 945);
    }

    // Promise 5: "how many LINES it held"
    private static void emptiesTellsHowMany() {
        int[][] lines = {{}, {0}, {0, 1}, {0, 1, 2}, {0, 1, 2, 3}, {0, 0, 0}};
        int[] held = {0, 1, 2, 3, 3, 1};
        for (int i = 0; i < lines.length; i++) {
            CacheBounds x = holding(3, 0, lines[i]);
            due.is("5, of " + i, x.empties(), held[i]);
            due.is("5, nothing is held", Due.row(x), 9);
            due.is("5, none is counted", x.count(7), 0);
            due.is("5, WAYS stay", x.count(4), 3);
            due.is("5, of an empty one", x.empties(), 0);
            due.is("5, all is a MISS", x.look(0), 10);
        }
    }

    // Promise 7: "NONE: fewer. BAD: k below 0."
    private static void heldIsNoneBeyond() {
        int[][] lines = {{}, {5}, {5, 0}, {5, 0, 4}};
        for (int held = 0; held <= 3; held++) {
            CacheBounds x = holding(3, 0, lines[held]);
            for (int k = 0; k < held; k++) {
                due.is("7, held(" + k + ") of " + held, x.held(k), lines[held][held - 1 - k]);
            }
            for (int k : new int[] {held, held + 1, 3, 4, 8, 10, 11, 31, 32, 33, 64, 1 << 29, 1 << 30, MOST}) {
                due.is("7, held(" + k + ") of " + held, x.held(k), -1);
            }
            due.is("7, NONE is no refusal", x.count(0) + x.count(1) + x.count(2), 0);
            due.is("7, held(-1)", x.held(-1), -2);
            due.is("7, held(-2)", x.held(-2), -2);
            due.is("7, held(LEAST)", x.held(LEAST), -2);
            due.is("7, each BAD counts", x.count(0), 3);
        }
    }

    // "An object is used for at most 512 calls after it has been made"
    private static void all512CallsAnswer() {
        CacheBounds x = new CacheBounds();
        for (int i = 0; i < 255; i++) {
            due.is("call " + 2 * i, x.look(i % 3), 10);
            due.is("call " + (2 * i + 1), x.ways(0), -2);
        }
        due.is("call 511", x.count(0), 255);
        due.is("call 512", x.count(8), 8);
    }
}
