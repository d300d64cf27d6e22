import java.math.BigInteger;

/** The boundary cases of promises 22 to 27: one part for each sentence, both sides. */
public final class RunEdgesTest {
    private static final int LEAST = Integer.MIN_VALUE, MOST = Integer.MAX_VALUE;
    private static final int ALL_ONES = 1048575;
    private static final Due due = new Due();

    public static void main(String[] args) {
        chosenIs0To1048575();
        askedFromTheLowestOn();
        beyondTheBitsAllIs0();
        askedInOrderAsTheyCome();
        noBitWhereALoopIsDone();
        runsThreeDeep();
        theCacheIsAsBehindIt();
        ranIs0AtFirst();
        ranWhat0To2();
        ranOfTheLastRun();
        undoNoneCan();
        undoOneByOne();
        undoEightAtMost();
        undoAndGoOn();
        undoBringsBackAll();
        undoLeavesTheRest();
        drawsN0To20();
        drawsSeed0To999999();
        drawsWhatIsLeftOver();
        drawsTheMost();
        drawsLeavesTheCache();
        countWhat0To8();
        countOfItsOwnRefusal();
        countAtItsLeastAndMost();
        digestWrapsAround();
        digestOfEachValue();
        due.end("RunEdgesTest");
    }

    // Promise 22: "20 bits of it (0 .. 1048575) .. BAD."
    private static void chosenIs0To1048575() {
        CacheBounds x = due.with("(|.)".repeat(20));
        due.is("22, runs(0)", x.runs(0), 0);
        due.is("22, runs(1048575)", x.runs(ALL_ONES), 20);
        due.is("22, runs(1048574)", x.runs(ALL_ONES - 1), 19);
        Due.looks(x, 4);
        int undoable = x.count(8);
        for (int chosen : new int[] {-1, 1048576, 1048577, -2, LEAST, MOST}) {
            due.is("22, runs(" + chosen + ")", x.runs(chosen), -2);
            due.is("22, THE CACHE stays", Due.row(x), 94);
        }
        due.is("22, each BAD counts", x.count(0), 6);
        due.is("22, none of these can be undone", x.count(8), undoable);
        due.is("22, the last run is the last right one", x.ran(2), 20);
    }

    // Promise 22: "asked from the lowest on"
    private static void askedFromTheLowestOn() {
        for (int bit = 0; bit < 20; bit++) {
            CacheBounds x = due.with("(|)".repeat(bit) + "(|.)");
            due.is("22, bit " + bit + " alone", x.runs(1 << bit), 1);
            due.is("22, all but bit " + bit, x.runs(ALL_ONES - (1 << bit)), 0);
            due.is("22, all bits", x.runs(ALL_ONES), 1);
            due.is("23, bits asked", x.ran(2), bit + 1);
        }
    }

    // Promise 22: "(beyond them: 0)"
    private static void beyondTheBitsAllIs0() {
        String ahead = "(|)".repeat(20);
        due.is("22, the 21st choice is the first", due.with(ahead + "(..|.)").runs(ALL_ONES), 2);
        due.is("22, the 21st time a LOOP ends", due.with(ahead + "9[.]").runs(ALL_ONES), 0);
        due.is("22, all times beyond", due.with(ahead + "9[.]9[.].").runs(ALL_ONES), 1);
        CacheBounds x = due.with("9[.]9[.]9[.]");
        due.is("22, a LOOP that is cut short", x.runs(ALL_ONES), 9 + 9 + 2);
        due.is("23, the 21st was asked", x.ran(2), 21);
        CacheBounds many = due.with("(|.)(|)".repeat(11));
        due.is("22, ten of eleven", many.runs(ALL_ONES), 10);
        due.is("23, 22 bits", many.ran(2), 22);
        CacheBounds more = due.with(ahead + "(.|)".repeat(5));
        due.is("22, beyond 20", more.runs(ALL_ONES), 5);
        // More than 32 are asked: Java's shift by so many begins anew, the bits don't.
        CacheBounds far = due.with("9[(|)]" + "9[(|)]" + "(.|)".repeat(17));
        due.is("22, by no bits", far.runs(0), 17);
        due.is("22, by all bits", far.runs(ALL_ONES), 17);
        due.is("23, 38 bits: of the first LOOP, the second, the choices", far.ran(2), 18 + 3 + 17);
    }

    // A WAY: "in order as they come to be asked"
    private static void askedInOrderAsTheyCome() {
        CacheBounds x = due.with("((.|..)|(...|....))");
        due.is("22, first, first", x.runs(0b00), 1);
        due.is("22, first, second", x.runs(0b10), 2);
        due.is("22, second, first", x.runs(0b01), 3);
        due.is("22, second, second", x.runs(0b11), 4);
        CacheBounds y = due.with("2[(.|..)]");
        due.is("22, once, first", y.runs(0b001), 1);
        due.is("22, once, second", y.runs(0b011), 2);
        due.is("22, twice, first, second", y.runs(0b1101), 3);
        due.is("22, twice, second, first", y.runs(0b0111), 3);
        due.is("22, twice, second, second", y.runs(0b1111), 4);
        due.is("22, not at all", y.runs(0b1110), 0);
        due.is("23, one bit was asked", y.ran(2), 1);
    }

    // A WAY: "(1; as long as it was not done as many times)"
    private static void noBitWhereALoopIsDone() {
        CacheBounds x = due.with("1[.](|..)");
        due.is("22, done once: the next bit is the choice's", x.runs(0b11), 3);
        due.is("23, 2 bits", x.ran(2), 2);
        due.is("22, done once, the first", x.runs(0b01), 1);
        due.is("22, not done, the second", x.runs(0b10), 2);
        CacheBounds y = due.with("2[1[.]]");
        due.is("22, both each time", y.runs(0b1111), 2);
        due.is("23, 4 bits", y.ran(2), 4);
        due.is("22, the inner one not", y.runs(0b0101), 0);
        due.is("23, 4 bits again", y.ran(2), 4);
        CacheBounds z = due.with("9[.]");
        z.runs(0b111111111);
        due.is("23, nine of nine: 9 bits", z.ran(2), 9);
        z.runs(0b011111111);
        due.is("23, eight of nine: 9 bits", z.ran(2), 9);
        z.runs(0b001111111);
        due.is("23, seven of nine: 8 bits", z.ran(2), 8);
    }

    // "3 ( and [ within one another": the innermost ROW is run too
    private static void runsThreeDeep() {
        CacheBounds x = due.with("1[1[1[a.]]]");
        due.is("22, three LOOPS deep", x.runs(0b111), 11);
        due.is("22, two LOOPS deep", x.runs(0b011), 0);
        due.is("23, three bits", x.ran(2), 3);
        CacheBounds y = due.with("(((.|..)|...)|....)");
        due.is("22, the first of the first", y.runs(0b000), 1);
        due.is("22, the innermost second", y.runs(0b100), 2);
        due.is("22, the middle second", y.runs(0b010), 3);
        due.is("22, the outermost second", y.runs(0b001), 4);
    }

    // Promise 22: "THE CACHE is as behind it"
    private static void theCacheIsAsBehindIt() {
        CacheBounds x = due.with("(a|b)c");
        due.is("22, a, c", x.runs(0), 20);
        due.is("22, the row", Due.row(x), 920);
        due.is("22, from there b, c", x.runs(1), 11);
        due.is("22, the row", Due.row(x), 921);
        Due.read(x, "");
        due.is("22, an empty ROW", x.runs(5), 0);
        due.is("22, the row stays", Due.row(x), 921);
    }

    // Promise 23: "All 0 at first."
    private static void ranIs0AtFirst() {
        CacheBounds x = due.with("aa(b|c)");
        Due.looks(x, 0, 0, 1);
        for (int what = 0; what <= 2; what++) {
            due.is("23, ran(" + what + ") at first", x.ran(what), 0);
        }
        x.runs(ALL_ONES + 1);
        due.is("23, a refused run is none", x.ran(0) + x.ran(1) + x.ran(2), 0);
    }

    // Promise 23: what may be asked, "BAD."
    private static void ranWhat0To2() {
        CacheBounds x = due.with("aab(b|c)(|)(|)");
        x.runs(0);
        int[] ran = {2, 2, 3};
        for (int what = 0; what <= 2; what++) {
            due.is("23, ran(" + what + ")", x.ran(what), ran[what]);
        }
        for (int what : new int[] {-1, 3, -2, 4, LEAST, MOST}) {
            due.is("23, ran(" + what + ")", x.ran(what), -2);
        }
        due.is("23, each BAD counts", x.count(0), 6);
    }

    private static void ranOfTheLastRun() {
        CacheBounds x = due.with("a(b|)");
        x.runs(0);
        due.is("23, MISSES of the first", x.ran(1), 2);
        x.runs(1);
        due.is("23, MISSES of the second alone", x.ran(1), 0);
        due.is("23, HITS of the second alone", x.ran(0), 1);
        due.is("23, bits of the second alone", x.ran(2), 1);
        Due.read(x, ".");
        due.is("23, another PROGRAM is no run", x.ran(0), 1);
        x.runs(0);
        due.is("23, a run of work", x.ran(0) + x.ran(1) + x.ran(2), 0);
    }

    // Promise 24: "NO: none can."
    private static void undoNoneCan() {
        CacheBounds x = due.with("ab");
        due.is("24, at first", x.undo(), -3);
        due.is("24, NO counts", x.count(1), 1);
        due.is("24, nothing else counts", x.count(0) + x.count(2), 0);
        x.look(3);
        due.is("24, one can", x.undo(), 0);
        due.is("24, none can", x.undo(), -3);
        due.is("24, none can again", x.undo(), -3);
        due.is("24, each NO counts", x.count(1), 3);
        due.is("24, all stays", Due.row(x), 9);
    }

    // Promise 24: "The last run, looks, WAYS, KIND, PRICE told, emptying are undone, one by one"
    private static void undoOneByOne() {
        CacheBounds x = due.with("f");
        x.ways(3);
        x.kind(1);
        x.price(20);
        x.look(0);
        x.look(0);
        x.runs(0);
        x.empties();
        due.is("24, seven", x.count(8), 7);
        due.is("24, the emptying", x.undo() * 100000 + Due.row(x), 6 * 100000 + 950);
        due.is("24, the run", x.undo() * 100000 + Due.row(x), 5 * 100000 + 90);
        due.is("24, the look that hit", x.undo() * 100000 + Due.row(x), 4 * 100000 + 90);
        due.is("24, the look that missed", x.undo() * 100000 + Due.row(x), 3 * 100000 + 9);
        due.is("24, the PRICE", x.undo() * 100 + x.count(6), 210);
        due.is("24, the KIND", x.undo() * 100 + x.count(5), 100);
        due.is("24, the WAYS", x.undo() * 100 + x.count(4), 2);
        due.is("24, no more", x.undo(), -3);
    }

    // Promise 24: "8 at most, older ones are lost"
    private static void undoEightAtMost() {
        for (int told = 1; told <= 20; told++) {
            CacheBounds x = new CacheBounds();
            for (int i = 1; i <= told; i++) {
                x.price(10 + i);
                due.is("24, that can be undone", x.count(8), Math.min(i, 8));
            }
            int can = Math.min(told, 8);
            for (int left = can - 1; left >= 0; left--) {
                due.is("24, how many can be yet", x.undo(), left);
                due.is("24, PRICE as ahead", x.count(6), 10 + told - can + left);
            }
            due.is("24, older ones are lost", x.undo(), -3);
            due.is("24, PRICE stays", x.count(6), 10 + Math.max(0, told - 8));
        }
    }

    private static void undoAndGoOn() {
        CacheBounds x = new CacheBounds();
        for (int i = 0; i < 8; i++) {
            x.price(20 + i);
        }
        due.is("24, seven can be yet", x.undo(), 7);
        x.price(50);
        due.is("24, eight again", x.count(8), 8);
        due.is("24, the last one alone", x.undo() * 100 + x.count(6), 726);
        due.is("24, the one ahead of it", x.undo() * 100 + x.count(6), 625);
        for (int i = 0; i < 5; i++) {
            x.price(60 + i);
        }
        due.is("24, eight at most", x.count(8), 8);
        int[] prices = {63, 62, 61, 60, 25, 24, 23, 22};
        for (int i = 0; i < prices.length; i++) {
            x.undo();
            due.is("24, PRICE " + i, x.count(6), prices[i]);
        }
        due.is("24, none can", x.undo(), -3);
    }

    // Promise 24: "(THE CACHE, WAYS, KIND, PRICE as ahead ..)"
    private static void undoBringsBackAll() {
        CacheBounds x = new CacheBounds();
        x.ways(3);
        Due.looks(x, 0, 1, 2);
        x.ways(1);
        due.is("24, two went out", Due.row(x), 92);
        x.undo();
        due.is("24, both are back", Due.row(x), 9210);
        due.is("24, WAYS are back", x.count(4), 3);
        x.empties();
        x.undo();
        due.is("24, all are back", Due.row(x), 9210);
        x.look(5);
        x.undo();
        due.is("24, the one that went out is back", Due.row(x), 9210);
        due.is("24, it is a HIT", x.look(0), 1);
    }

    private static void undoLeavesTheRest() {
        CacheBounds x = due.with("ab(|)");
        x.runs(0);
        x.clear();
        x.type('.');
        due.is("24, the run is undone", x.undo(), 0);
        due.is("24, ran stays: HITS", x.ran(0), 0);
        due.is("24, ran stays: MISSES", x.ran(1), 2);
        due.is("24, ran stays: bits", x.ran(2), 1);
        due.is("24, THE TEXT stays", x.count(3), 1);
        due.is("24, THE PROGRAM stays", x.told(0), 2);
        x.ways(0);
        due.is("24, refusals can't be undone", x.undo(), -3);
        due.is("24, nor how often", x.count(0), 1);
    }

    // Promise 25: "n (0 .. 20)"; "(0: n is 0)"
    private static void drawsN0To20() {
        CacheBounds x = due.with("a");
        due.is("25, draws(1, 0)", x.draws(1, 0), 0);
        due.is("25, draws(1, 1)", x.draws(1, 1), 10);
        due.is("25, draws(1, 20)", x.draws(1, 20), 10);
        for (int n : new int[] {-1, 21, 22, LEAST, MOST}) {
            due.is("25, draws(1, " + n + ")", x.draws(1, n), -2);
        }
        due.is("25, each BAD counts", x.count(0), 5);
    }

    // Promise 25: "SEED (0 .. 999999)"
    private static void drawsSeed0To999999() {
        CacheBounds x = due.with("a");
        due.is("25, draws(0, 1)", x.draws(0, 1), 10);
        due.is("25, draws(999999, 1)", x.draws(999999, 1), 10);
        for (int seed : new int[] {-1, 1000000, LEAST, MOST}) {
            due.is("25, draws(" + seed + ", 1)", x.draws(seed, 1), -2);
            due.is("25, draws(" + seed + ", 0)", x.draws(seed, 0), -2);
            due.is("25, draws(" + seed + ", 21)", x.draws(seed, 21), -2);
        }
        due.is("25, each BAD counts once", x.count(0), 12);
    }

    private static int chosenBy(int seed, int times) {
        BigInteger x = BigInteger.valueOf(seed);
        for (int i = 0; i < times; i++) {
            x = x.multiply(BigInteger.valueOf(1103515245)).add(BigInteger.valueOf(12345))
                    .mod(BigInteger.valueOf(2147483648L));
        }
        return x.divide(BigInteger.valueOf(1024)).mod(BigInteger.valueOf(1048576)).intValueExact();
    }

    // Promise 25: "by 2147483648 what is left over"; "X by 1024 (cut), by 1048576 left over"
    private static void drawsWhatIsLeftOver() {
        int[] seeds = {0, 1, 2, 999998, 999999, 123456, 500000};
        boolean cut = false;
        for (int bit = 0; bit <= 20; bit++) {
            CacheBounds x = due.with("(|)".repeat(bit) + "(|.)");
            for (int seed : seeds) {
                int most = 0;
                for (int n = 1; n <= 3; n++) {
                    most = Math.max(most, chosenBy(seed, n) >> bit & 1);
                    due.is("25, bit " + bit + " of draws(" + seed + ", " + n + ")", x.draws(seed, n), most);
                }
                long first = (seed * 1103515245L + 12345L) % 2147483648L;
                cut |= first / 1024 >= 1048576;
            }
            due.is("25, no bit beyond 20", bit == 20 ? x.draws(999999, 20) : 0, 0);
        }
        due.holds("25, there was one to be cut", cut);
    }

    // Promise 25: "the most it took"
    private static void drawsTheMost() {
        CacheBounds x = due.with("(|.)".repeat(20));
        for (int seed : new int[] {0, 7, 999999}) {
            int most = 0;
            for (int n = 0; n <= 20; n++) {
                most = n == 0 ? 0 : Math.max(most, Integer.bitCount(chosenBy(seed, n)));
                due.is("25, draws(" + seed + ", " + n + ")", x.draws(seed, n), most);
            }
        }
    }

    // Promise 25: "from THE CACHE as it is each time (it stays)"
    private static void drawsLeavesTheCache() {
        CacheBounds x = due.with("abc");
        x.ways(3);
        due.is("25, from an empty one each time", x.draws(1, 20), 30);
        due.is("25, it stays empty", Due.row(x), 9);
        x.look(1);
        x.runs(0);
        x.undo();
        long before = x.digest();
        due.is("25, from b each time", x.draws(1, 20), 21);
        due.is("25, all stays", x.digest(), before);
        due.is("25, it stays", Due.row(x), 91);
        due.is("25, it can't be undone", x.count(8), 2);
    }

    // Promise 26: what may be asked, "BAD."
    private static void countWhat0To8() {
        CacheBounds x = new CacheBounds();
        x.ways(3);
        x.kind(1);
        x.price(42);
        x.look(5);
        x.type('a');
        x.type(-1);
        int[] counts = {1, 0, 0, 1, 3, 1, 42, 1, 4};
        for (int what = 0; what <= 8; what++) {
            due.is("26, count(" + what + ")", x.count(what), counts[what]);
        }
        for (int what : new int[] {-1, 9, -2, 10, LEAST, MOST}) {
            due.is("26, count(" + what + ")", x.count(what), -2);
        }
        due.is("26, each BAD counts", x.count(0), 7);
    }

    private static void countOfItsOwnRefusal() {
        CacheBounds x = new CacheBounds();
        due.is("26, none yet", x.count(0), 0);
        due.is("26, count(9)", x.count(9), -2);
        due.is("26, its own refusal counts", x.count(0), 1);
        due.is("26, asking again changes nothing", x.count(0), 1);
    }

    private static void countAtItsLeastAndMost() {
        CacheBounds x = new CacheBounds();
        for (int i = 0; i < 100; i++) {
            x.type('.');
            x.undo();
            x.kind(-1);
        }
        due.is("26, 100 BAD", x.count(0), 100);
        due.is("26, 100 NO", x.count(1), 100);
        due.is("26, 20 FULL", x.count(2), 20);
        due.is("26, 80 bytes", x.count(3), 80);
        due.is("26, none can be undone", x.count(8), 0);
        due.is("26, no LINES", x.count(7), 0);
        x.ways(3);
        Due.looks(x, 0, 1, 2, 3, 4, 5, 0, 1, 2);
        due.is("26, 3 LINES", x.count(7), 3);
        due.is("26, 8 can be undone", x.count(8), 8);
    }

    private static void digestIs(String name, CacheBounds x, int... values) {
        BigInteger h = BigInteger.valueOf(1999);
        for (int v : values) {
            h = h.multiply(BigInteger.valueOf(31)).add(BigInteger.valueOf(v));
        }
        due.is("27, " + name, x.digest(), h.longValue());
    }

    // Promise 27: "h = 31 h + v", a long with Java's wrap-around
    private static void digestWrapsAround() {
        CacheBounds x = new CacheBounds();
        BigInteger h = BigInteger.valueOf(1999).multiply(BigInteger.valueOf(31).pow(17));
        due.holds("27, it goes beyond a long", h.bitLength() > 63);
        digestIs("of a new object", x, 0, 0, 0, 0, 2, 0, 10, 0, 0, 0, 0, 0, 0, 0, 0, 0, 0);
        digestIs("again", x, 0, 0, 0, 0, 2, 0, 10, 0, 0, 0, 0, 0, 0, 0, 0, 0, 0);
    }

    // Promise 27: "count(0) to count(8); LINES held; told(0) to told(4); ran(0) to ran(2)"
    private static void digestOfEachValue() {
        CacheBounds x = new CacheBounds();
        x.ways(3);
        digestIs("WAYS", x, 0, 0, 0, 0, 3, 0, 10, 0, 1, 0, 0, 0, 0, 0, 0, 0, 0);
        x.look(5);
        digestIs("one LINE", x, 0, 0, 0, 0, 3, 0, 10, 1, 2, 5, 0, 0, 0, 0, 0, 0, 0, 0);
        x.look(0);
        digestIs("two LINES", x, 0, 0, 0, 0, 3, 0, 10, 2, 3, 0, 5, 0, 0, 0, 0, 0, 0, 0, 0);
        x.look(4);
        digestIs("three LINES", x, 0, 0, 0, 0, 3, 0, 10, 3, 4, 4, 0, 5, 0, 0, 0, 0, 0, 0, 0, 0);
        x.kind(2);
        x.price(99);
        x.kind(4);
        digestIs("KIND, PRICE, BAD", x, 1, 0, 0, 0, 3, 2, 99, 3, 6, 4, 0, 5, 0, 0, 0, 0, 0, 0, 0, 0);
        Due.read(x, "a(b|1[f])");
        digestIs("THE PROGRAM", x, 1, 0, 0, 9, 3, 2, 99, 3, 6, 4, 0, 5, 3, 1, 1, 2, 35, 0, 0, 0);
        x.runs(0);
        digestIs("a run", x, 1, 0, 0, 9, 3, 2, 99, 3, 7, 1, 0, 4, 3, 1, 1, 2, 35, 1, 1, 1);
        for (int i = 0; i < 8; i++) {
            x.undo();
        }
        digestIs("all undone, and NO", x, 1, 1, 0, 9, 2, 0, 10, 0, 0, 3, 1, 1, 2, 35, 1, 1, 1);
        for (int i = 9; i < 82; i++) {
            x.type('g');
        }
        digestIs("FULL", x, 1, 1, 2, 80, 2, 0, 10, 0, 0, 3, 1, 1, 2, 35, 1, 1, 1);
        x.clear();
        digestIs("an empty TEXT", x, 1, 1, 2, 0, 2, 0, 10, 0, 0, 3, 1, 1, 2, 35, 1, 1, 1);
    }
}
