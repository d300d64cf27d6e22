import java.util.Arrays;

/**
 * How long a program of looks at lines can take with a small cache: bounds that hold for sure,
 * what it truly takes at worst and at best, and single runs by what was chosen.
 */
public final class CacheBounds {
    public static final int NONE = -1, BAD = -2, NO = -3, FULL = -4;

    private static final int LINES = 6;
    private static final int MOST_WAYS = 3;
    private static final int KINDS = 4;
    private static final int LEAST_PRICE = 2;
    private static final int MOST_PRICE = 99;
    private static final int MOST_BYTES = 80;
    private static final int BYTES = 128;
    private static final int MOST_LOOKS = 24;
    private static final int DEEPEST = 3;
    private static final int MOST_MANY = 1000000000;
    private static final int CHOSEN_BITS = 20;
    private static final int SEEDS = 1000000;
    private static final int MOST_DRAWS = 20;
    private static final int FAULT_BASE = -10;

    private final Cache cache = new Cache();
    private final Cache tried = new Cache();
    private final History history = new History();
    private final int[] text = new int[MOST_BYTES];
    private int textLength = 0;
    private final Reader reader = new Reader();
    private final Program program = new Program();
    private final Following following = new Following();
    private final Explorer explorer = new Explorer();
    private final Runner lastRun = new Runner();
    private final Runner drawn = new Runner();
    private int badRefusals = 0;
    private int noRefusals = 0;
    private int fullRefusals = 0;

    public CacheBounds() {
    }

    // ---- the cache

    public int ways(int n) {
        if (!isWithin(n, 1, MOST_WAYS)) {
            return refuseBad();
        }
        history.remember(cache);
        int before = cache.ways;
        cache.ways = n;
        cache.row = Rows.cutTo(cache.row, n);
        return before;
    }

    public int kind(int k) {
        if (!isWithin(k, 0, KINDS - 1)) {
            return refuseBad();
        }
        history.remember(cache);
        int before = cache.kind;
        cache.kind = k;
        return before;
    }

    public int price(int n) {
        if (!isWithin(n, LEAST_PRICE, MOST_PRICE)) {
            return refuseBad();
        }
        history.remember(cache);
        int before = cache.price;
        cache.price = n;
        return before;
    }

    public int empties() {
        history.remember(cache);
        int before = Rows.sizeOf(cache.row);
        cache.row = Rows.EMPTY;
        return before;
    }

    public int look(int line) {
        if (!isLine(line)) {
            return refuseBad();
        }
        history.remember(cache);
        return cache.lookAt(line);
    }

    public int held(int k) {
        if (k < 0) {
            return refuseBad();
        }
        return Rows.lineAt(cache.row, k);
    }

    // ---- programs

    public int type(int c) {
        if (!isWithin(c, 0, BYTES - 1)) {
            return refuseBad();
        }
        if (textLength < 0 || textLength >= text.length) {
            fullRefusals++;
            return FULL;
        }
        text[textLength] = c;
        textLength++;
        return textLength;
    }

    public int clear() {
        int before = textLength;
        textLength = 0;
        return before;
    }

    public int reads() {
        int fault = reader.read(text, textLength);
        if (fault != NONE) {
            return FAULT_BASE - fault;
        }
        program.setAs(reader.draft);
        following.forget();
        explorer.forget();
        return program.looks;
    }

    public int told(int what) {
        if (!isWithin(what, 0, 4)) {
            return refuseBad();
        }
        return program.tell(what);
    }

    public int of(int k, int what) {
        if (!isWithin(k, 0, program.looks - 1) || !isWithin(what, 0, 5)) {
            return refuseBad();
        }
        following.follow(program, cache.ways);
        switch (what) {
            case 0: return program.lineOfLook(k);
            case 1: return following.sortOf(k);
            case 2: return following.mustAt(k);
            case 3: return following.mayAt(k);
            case 4: return following.isKept(program, k) ? 1 : 0;
            default: return program.figureAround(k);
        }
    }

    public int sure(int what) {
        if (!isWithin(what, 0, 3)) {
            return refuseBad();
        }
        following.follow(program, cache.ways);
        int found = 0;
        for (int k = 0; k < program.looks; k++) {
            boolean counts = what == 3 ? following.isKept(program, k) : following.sortOf(k) == what;
            found += counts ? 1 : 0;
        }
        return found;
    }

    public int behind(int sort, int line) {
        if (!isWithin(sort, 0, 1) || !isLine(line)) {
            return refuseBad();
        }
        following.follow(program, cache.ways);
        return sort == 0 ? following.mustBehind(line) : following.mayBehind(line);
    }

    // ---- bounds

    public int upper() {
        following.follow(program, cache.ways);
        return following.mostOf(program, cache.price);
    }

    public int lower() {
        following.follow(program, cache.ways);
        return following.leastOf(program, cache.price);
    }

    public int worst() {
        explorer.explore(program, cache);
        return explorer.mostTaken();
    }

    public int best() {
        explorer.explore(program, cache);
        return explorer.leastTaken();
    }

    public int ends() {
        explorer.explore(program, cache);
        return explorer.rowsAtEnd();
    }

    public int many() {
        return program.waysThrough();
    }

    public int worstBy(int what, int n) {
        if (!isWithin(what, 0, 1) || (what == 0 && !isWithin(n, 1, MOST_WAYS))) {
            return refuseBad();
        }
        if (what == 0) {
            return worstFromEmpty(n);
        }
        int found = 1;
        int least = worstFromEmpty(1);
        for (int tryWays = 2; tryWays <= MOST_WAYS; tryWays++) {
            int most = worstFromEmpty(tryWays);
            if (most < least) {
                found = tryWays;
                least = most;
            }
        }
        return found;
    }

    // ---- runs

    public int runs(int chosen) {
        if (!isWithin(chosen, 0, (1 << CHOSEN_BITS) - 1)) {
            return refuseBad();
        }
        history.remember(cache);
        return lastRun.run(program, cache, chosen);
    }

    public int ran(int what) {
        if (!isWithin(what, 0, 2)) {
            return refuseBad();
        }
        return lastRun.tell(what);
    }

    public int undo() {
        if (history.size == 0) {
            noRefusals++;
            return NO;
        }
        history.bringBack(cache);
        return history.size;
    }

    public int draws(int seed, int n) {
        if (!isWithin(seed, 0, SEEDS - 1) || !isWithin(n, 0, MOST_DRAWS)) {
            return refuseBad();
        }
        long x = seed;
        int most = 0;
        for (int i = 0; i < n; i++) {
            x = (x * 1103515245L + 12345L) % 2147483648L;
            int chosen = (int) ((x / 1024L) % 1048576L);
            tried.setAs(cache);
            most = Math.max(most, drawn.run(program, tried, chosen));
        }
        return most;
    }

    public int count(int what) {
        if (!isWithin(what, 0, 8)) {
            return refuseBad();
        }
        return countOf(what);
    }

    public long digest() {
        long h = 1999L;
        for (int what = 0; what <= 8; what++) {
            h = 31L * h + countOf(what);
        }
        int size = Rows.sizeOf(cache.row);
        for (int place = 0; place < size; place++) {
            h = 31L * h + Rows.lineAt(cache.row, place);
        }
        for (int what = 0; what <= 4; what++) {
            h = 31L * h + program.tell(what);
        }
        for (int what = 0; what <= 2; what++) {
            h = 31L * h + lastRun.tell(what);
        }
        return h;
    }

    // ---- what the calls share

    private static boolean isWithin(int n, int least, int most) {
        return n >= least && n <= most;
    }

    private static boolean isLine(int line) {
        return isWithin(line, 0, LINES - 1);
    }

    private int refuseBad() {
        badRefusals++;
        return BAD;
    }

    private int countOf(int what) {
        switch (what) {
            case 0: return badRefusals;
            case 1: return noRefusals;
            case 2: return fullRefusals;
            case 3: return textLength;
            case 4: return cache.ways;
            case 5: return cache.kind;
            case 6: return cache.price;
            case 7: return Rows.sizeOf(cache.row);
            default: return history.size;
        }
    }

    private int worstFromEmpty(int n) {
        tried.setAs(cache);
        tried.row = Rows.EMPTY;
        tried.ways = n;
        explorer.explore(program, tried);
        return explorer.mostTaken();
    }

    /**
     * A row of lines as one number, so that rows can be compared, kept and used as an index:
     * three bits a place, the front lowest; 0 where none is, else the line and 1.
     */
    private static final class Rows {
        static final int EMPTY = 0;
        static final int NUMBERS = 512;
        // The rows that can be: 1 of no line, 6 of one, 6 * 5 of two, 6 * 5 * 4 of three.
        static final int MOST = 157;
        private static final int BITS = 3;
        private static final int PLACE_MASK = 7;

        static int sizeOf(int row) {
            int size = 0;
            for (int place = 0; place < MOST_WAYS; place++) {
                size += lineAt(row, place) != NONE ? 1 : 0;
            }
            return size;
        }

        /** NONE beyond the row's end too: there the sign is 0. */
        static int lineAt(int row, int place) {
            if (place < 0 || place >= MOST_WAYS) {
                return NONE;
            }
            return (row >> (BITS * place) & PLACE_MASK) - 1;
        }

        static int placeOf(int row, int line) {
            for (int place = 0; place < MOST_WAYS; place++) {
                if ((row >> (BITS * place) & PLACE_MASK) == line + 1) {
                    return place;
                }
            }
            return NONE;
        }

        static int cutTo(int row, int ways) {
            return row & ((1 << (BITS * ways)) - 1);
        }

        static int afterMiss(int row, int line, int ways) {
            return cutTo(row << BITS | (line + 1), ways);
        }

        static int afterHit(int row, int place, int ways, int kind) {
            switch (kind) {
                case 0: return moved(row, place, 0);
                case 1: return row;
                case 2: return place == 0 ? row : moved(row, place, place - 1);
                default: return place == ways - 1 ? row : moved(row, place, 0);
            }
        }

        private static int moved(int row, int from, int to) {
            int upTo = row & ((1 << (BITS * from)) - 1);
            int ahead = row & ((1 << (BITS * to)) - 1);
            int sign = row >> (BITS * from) & PLACE_MASK;
            int after = row - upTo - (sign << (BITS * from));
            return ahead | sign << (BITS * to) | (upTo - ahead) << BITS | after;
        }
    }

    /** The cache with all that an undone call brings back. */
    private static final class Cache {
        int row = Rows.EMPTY;
        int ways = 2;
        int kind = 0;
        int price = 10;

        void setAs(Cache other) {
            row = other.row;
            ways = other.ways;
            kind = other.kind;
            price = other.price;
        }

        boolean isAs(Cache other) {
            return row == other.row && ways == other.ways && kind == other.kind && price == other.price;
        }

        int lookAt(int line) {
            int place = Rows.placeOf(row, line);
            if (place == NONE) {
                row = Rows.afterMiss(row, line, ways);
                return price;
            }
            row = Rows.afterHit(row, place, ways, kind);
            return 1;
        }
    }

    /** The caches ahead of the last calls that can be undone, in a ring: the oldest is lost first. */
    private static final class History {
        private static final int MOST = 8;
        private static final int RING_MASK = MOST - 1;

        private final Cache[] ring = new Cache[MOST];
        private int next = 0;
        int size = 0;

        History() {
            for (int i = 0; i < MOST; i++) {
                ring[i] = new Cache();
            }
        }

        void remember(Cache cache) {
            ring[next & RING_MASK].setAs(cache);
            next = (next + 1) & RING_MASK;
            size = Math.min(size + 1, MOST);
        }

        void bringBack(Cache cache) {
            if (size == 0) {
                return;
            }
            next = (next - 1) & RING_MASK;
            cache.setAs(ring[next & RING_MASK]);
            size--;
        }
    }

    /**
     * A program as a row of signs. A FORK's mate is its ELSE, an ELSE's mate its JOIN, a LOOP's mate
     * its BACK: what lies between two mates is a row of parts again.
     */
    private static final class Program {
        static final int LOOK = 0;
        static final int WORK = 1;
        static final int FORK = 2;
        static final int ELSE = 3;
        static final int JOIN = 4;
        static final int LOOP = 5;
        static final int BACK = 6;

        private final int[] signs = new int[MOST_BYTES];
        private final int[] values = new int[MOST_BYTES];
        private final int[] mates = new int[MOST_BYTES];
        private final int[] linesWithin = new int[MOST_BYTES];
        private final int[] linesOfLooks = new int[MOST_LOOKS];
        private final int[] loopsAroundLooks = new int[MOST_LOOKS];
        int size = 0;
        int looks = 0;
        int choices = 0;
        int loops = 0;
        int depth = 0;
        int lines = 0;

        void wipe() {
            size = 0;
            looks = 0;
            choices = 0;
            loops = 0;
            depth = 0;
            lines = 0;
        }

        void setAs(Program other) {
            System.arraycopy(other.signs, 0, signs, 0, MOST_BYTES);
            System.arraycopy(other.values, 0, values, 0, MOST_BYTES);
            System.arraycopy(other.mates, 0, mates, 0, MOST_BYTES);
            System.arraycopy(other.linesWithin, 0, linesWithin, 0, MOST_BYTES);
            System.arraycopy(other.linesOfLooks, 0, linesOfLooks, 0, MOST_LOOKS);
            System.arraycopy(other.loopsAroundLooks, 0, loopsAroundLooks, 0, MOST_LOOKS);
            size = other.size;
            looks = other.looks;
            choices = other.choices;
            loops = other.loops;
            depth = other.depth;
            lines = other.lines;
        }

        int tell(int what) {
            switch (what) {
                case 0: return looks;
                case 1: return choices;
                case 2: return loops;
                case 3: return depth;
                default: return lines;
            }
        }

        boolean add(int sign, int value) {
            if (size < 0 || size >= MOST_BYTES) {
                return false;
            }
            signs[size] = sign;
            values[size] = value;
            mates[size] = size;
            linesWithin[size] = 0;
            size++;
            return true;
        }

        boolean addLook(int line, int loopAround) {
            if (looks < 0 || looks >= MOST_LOOKS || !add(LOOK, looks)) {
                return false;
            }
            linesOfLooks[looks] = line;
            loopsAroundLooks[looks] = loopAround;
            looks++;
            lines |= 1 << line;
            return true;
        }

        void setMate(int at, int mate) {
            if (isSign(at)) {
                mates[at] = mate;
            }
        }

        void addLineWithin(int at, int line) {
            if (isSign(at)) {
                linesWithin[at] |= 1 << line;
            }
        }

        int signAt(int at) {
            return isSign(at) ? signs[at] : NONE;
        }

        /** Of a look its number, of a loop its figure. */
        int valueAt(int at) {
            return isSign(at) ? values[at] : 0;
        }

        /** Never ahead of the place itself, so that whoever goes on there comes to an end. */
        int mateOf(int at) {
            return isSign(at) ? Math.max(at, mates[at]) : at;
        }

        int lineOfLook(int k) {
            return isLook(k) ? linesOfLooks[k] : 0;
        }

        int figureAround(int k) {
            return isLook(k) ? valueAt(loopsAroundLooks[k]) : 0;
        }

        boolean isInLoop(int k) {
            return isLook(k) && loopsAroundLooks[k] != NONE;
        }

        int howManyLinesAround(int k) {
            int at = isLook(k) ? loopsAroundLooks[k] : NONE;
            return isSign(at) ? Integer.bitCount(linesWithin[at]) : 0;
        }

        int waysThrough() {
            return (int) waysThroughRow(0, size, 0);
        }

        /** Cut at each step: every factor is 1 at least, so what once was too many stays so. */
        private long waysThroughRow(int from, int to, int within) {
            long product = 1;
            for (int i = from; i < to && within <= DEEPEST; i++) {
                int mate = mateOf(i);
                if (signAt(i) == FORK) {
                    int end = mateOf(mate);
                    product = cut(product * (waysThroughRow(i + 1, mate, within + 1)
                            + waysThroughRow(mate + 1, end, within + 1)));
                    i = end;
                } else if (signAt(i) == LOOP) {
                    product = cut(product * waysRound(waysThroughRow(i + 1, mate, within + 1), valueAt(i)));
                    i = mate;
                }
            }
            return product;
        }

        private static long waysRound(long waysOfRow, int times) {
            long sum = 1;
            long power = 1;
            for (int i = 0; i < times; i++) {
                power = cut(power * waysOfRow);
                sum = cut(sum + power);
            }
            return sum;
        }

        private static long cut(long n) {
            return Math.min(n, MOST_MANY);
        }

        private boolean isSign(int at) {
            return at >= 0 && at < size && at < MOST_BYTES;
        }

        private boolean isLook(int k) {
            return k >= 0 && k < looks && k < MOST_LOOKS;
        }
    }

    /** Reads a text into a draft, byte by byte, with the choices and loops that stand open. */
    private static final class Reader {
        private final int[] open = new int[DEEPEST];
        private int depth = 0;
        private int figure = 0;
        final Program draft = new Program();

        /** The place of the fault; NONE: there is none, and the draft is what the text tells. */
        int read(int[] text, int length) {
            draft.wipe();
            depth = 0;
            figure = 0;
            for (int i = 0; i < length && i < text.length; i++) {
                if (text[i] != ' ' && !takes(text[i])) {
                    return i;
                }
            }
            return depth == 0 && figure == 0 ? NONE : length;
        }

        private boolean takes(int c) {
            if (figure != 0) {
                return c == '[' && opensLoop();
            }
            if (c >= 'a' && c < 'a' + LINES) {
                return takesLook(c - 'a');
            }
            if (c >= '1' && c <= '9') {
                return takesFigure(c - '0');
            }
            switch (c) {
                case '.': return draft.add(Program.WORK, 0);
                case '(': return opensChoice();
                case '|': return turns(Program.FORK, Program.ELSE);
                case ')': return closes(Program.ELSE, Program.JOIN);
                case ']': return closes(Program.LOOP, Program.BACK);
                default: return false;
            }
        }

        private boolean takesLook(int line) {
            int around = NONE;
            for (int i = 0; i < depth && i < DEEPEST; i++) {
                if (draft.signAt(open[i]) == Program.LOOP) {
                    around = open[i];
                }
            }
            if (!draft.addLook(line, around)) {
                return false;
            }
            for (int i = 0; i < depth && i < DEEPEST; i++) {
                draft.addLineWithin(open[i], line);
            }
            return true;
        }

        /** The figure itself is the fault where no loop may stand. */
        private boolean takesFigure(int number) {
            if (depth >= DEEPEST) {
                return false;
            }
            figure = number;
            return true;
        }

        private boolean opensLoop() {
            int times = figure;
            figure = 0;
            draft.loops++;
            return opens(Program.LOOP, times);
        }

        private boolean opensChoice() {
            if (!opens(Program.FORK, 0)) {
                return false;
            }
            draft.choices++;
            return true;
        }

        private boolean opens(int sign, int value) {
            if (depth < 0 || depth >= DEEPEST || !draft.add(sign, value)) {
                return false;
            }
            open[depth] = draft.size - 1;
            depth++;
            draft.depth = Math.max(draft.depth, depth);
            return true;
        }

        private boolean turns(int opened, int sign) {
            if (!isOpen(opened) || !draft.add(sign, 0)) {
                return false;
            }
            int place = draft.size - 1;
            draft.setMate(open[depth - 1], place);
            open[depth - 1] = place;
            return true;
        }

        private boolean closes(int opened, int sign) {
            if (!turns(opened, sign)) {
                return false;
            }
            depth--;
            return true;
        }

        private boolean isOpen(int sign) {
            return depth > 0 && depth <= DEEPEST && draft.signAt(open[depth - 1]) == sign;
        }
    }

    /** For each line the age at most (must) and at least (may) at one place of a program. */
    private static final class Ages {
        final int[] must = new int[LINES];
        final int[] may = new int[LINES];

        void start(int ways) {
            Arrays.fill(must, ways);
            Arrays.fill(may, ways);
        }

        void setAs(Ages other) {
            for (int i = 0; i < LINES; i++) {
                must[i] = other.must[i];
                may[i] = other.may[i];
            }
        }

        void lookAt(int line, int ways) {
            if (!isLine(line)) {
                return;
            }
            int mustOfLine = must[line];
            int mayOfLine = may[line];
            for (int i = 0; i < LINES; i++) {
                if (must[i] < mustOfLine) {
                    must[i]++;
                }
                if (may[i] <= mayOfLine) {
                    may[i] = Math.min(may[i] + 1, ways);
                }
            }
            must[line] = 0;
            may[line] = 0;
        }

        /** Whether that changed anything. */
        boolean joinWith(Ages other) {
            boolean changed = false;
            for (int i = 0; i < LINES; i++) {
                if (other.must[i] > must[i]) {
                    must[i] = other.must[i];
                    changed = true;
                }
                if (other.may[i] < may[i]) {
                    may[i] = other.may[i];
                    changed = true;
                }
            }
            return changed;
        }
    }

    /** The ages at each look and behind a program, kept until the program or the ways change. */
    private static final class Following {
        private static final int OPEN = 0;
        private static final int SURE_HIT = 1;
        private static final int SURE_MISS = 2;
        // Each round but the last changes one of 12 ages, none more than three times.
        private static final int MOST_ROUNDS = 2 * LINES * MOST_WAYS + 1;

        private final int[] must = new int[MOST_LOOKS];
        private final int[] may = new int[MOST_LOOKS];
        private final Ages[] now = new Ages[DEEPEST + 1];
        private final Ages[] ahead = new Ages[DEEPEST];
        private int ways = 0;
        private boolean known = false;

        Following() {
            for (int i = 0; i <= DEEPEST; i++) {
                now[i] = new Ages();
            }
            for (int i = 0; i < DEEPEST; i++) {
                ahead[i] = new Ages();
            }
        }

        void forget() {
            known = false;
        }

        void follow(Program program, int byWays) {
            if (known && ways == byWays) {
                return;
            }
            ways = byWays;
            now[0].start(ways);
            followRow(program, 0, program.size, 0);
            known = true;
        }

        int mustAt(int k) {
            return k >= 0 && k < MOST_LOOKS ? must[k] : ways;
        }

        int mayAt(int k) {
            return k >= 0 && k < MOST_LOOKS ? may[k] : ways;
        }

        int mustBehind(int line) {
            return isLine(line) ? now[0].must[line] : ways;
        }

        int mayBehind(int line) {
            return isLine(line) ? now[0].may[line] : ways;
        }

        int sortOf(int k) {
            if (mustAt(k) < ways) {
                return SURE_HIT;
            }
            return mayAt(k) >= ways ? SURE_MISS : OPEN;
        }

        boolean isKept(Program program, int k) {
            return sortOf(k) != SURE_HIT && program.isInLoop(k) && program.howManyLinesAround(k) <= ways;
        }

        int mostOf(Program program, int price) {
            return mostOfRow(program, price, 0, program.size, 0);
        }

        int leastOf(Program program, int price) {
            return leastOfRow(program, price, 0, program.size, 0);
        }

        private int mostOfRow(Program program, int price, int from, int to, int depth) {
            int sum = 0;
            for (int i = from; i < to && depth <= DEEPEST; i++) {
                int sign = program.signAt(i);
                int mate = program.mateOf(i);
                if (sign == Program.LOOK) {
                    sum += sortOf(program.valueAt(i)) == SURE_HIT ? 1 : price;
                } else if (sign == Program.WORK) {
                    sum++;
                } else if (sign == Program.FORK) {
                    int end = program.mateOf(mate);
                    sum += Math.max(mostOfRow(program, price, i + 1, mate, depth + 1),
                            mostOfRow(program, price, mate + 1, end, depth + 1));
                    i = end;
                } else if (sign == Program.LOOP) {
                    sum += program.valueAt(i) * mostOfRow(program, price, i + 1, mate, depth + 1);
                    i = mate;
                }
            }
            return sum;
        }

        private int leastOfRow(Program program, int price, int from, int to, int depth) {
            int sum = 0;
            for (int i = from; i < to && depth <= DEEPEST; i++) {
                int sign = program.signAt(i);
                int mate = program.mateOf(i);
                if (sign == Program.LOOK) {
                    sum += sortOf(program.valueAt(i)) == SURE_MISS ? price : 1;
                } else if (sign == Program.WORK) {
                    sum++;
                } else if (sign == Program.FORK) {
                    int end = program.mateOf(mate);
                    sum += Math.min(leastOfRow(program, price, i + 1, mate, depth + 1),
                            leastOfRow(program, price, mate + 1, end, depth + 1));
                    i = end;
                } else if (sign == Program.LOOP) {
                    i = mate;
                }
            }
            return sum;
        }

        private void followRow(Program program, int from, int to, int depth) {
            if (!isWithin(depth, 0, DEEPEST)) {
                return;
            }
            for (int i = from; i < to; i++) {
                int sign = program.signAt(i);
                if (sign == Program.LOOK) {
                    int k = program.valueAt(i);
                    followLook(k, program.lineOfLook(k), now[depth]);
                } else if (sign == Program.FORK) {
                    i = followChoice(program, i, depth);
                } else if (sign == Program.LOOP) {
                    i = followLoop(program, i, depth);
                }
            }
        }

        private void followLook(int k, int line, Ages ages) {
            if (!isWithin(k, 0, MOST_LOOKS - 1) || !isLine(line)) {
                return;
            }
            must[k] = ages.must[line];
            may[k] = ages.may[line];
            ages.lookAt(line, ways);
        }

        /** The place of the choice's end. */
        private int followChoice(Program program, int fork, int depth) {
            int middle = program.mateOf(fork);
            int end = program.mateOf(middle);
            if (isWithin(depth, 0, DEEPEST - 1)) {
                ahead[depth].setAs(now[depth]);
                now[depth + 1].setAs(ahead[depth]);
                followRow(program, fork + 1, middle, depth + 1);
                now[depth].setAs(now[depth + 1]);
                now[depth + 1].setAs(ahead[depth]);
                followRow(program, middle + 1, end, depth + 1);
                now[depth].joinWith(now[depth + 1]);
            }
            return end;
        }

        /** The place of the loop's end. The last round leaves at the looks what is there at last. */
        private int followLoop(Program program, int loop, int depth) {
            int end = program.mateOf(loop);
            boolean changed = isWithin(depth, 0, DEEPEST - 1);
            for (int round = 0; changed && round < MOST_ROUNDS; round++) {
                now[depth + 1].setAs(now[depth]);
                followRow(program, loop + 1, end, depth + 1);
                changed = now[depth].joinWith(now[depth + 1]);
            }
            return end;
        }
    }

    /** The rows the cache can have at one place of a program, each with the most and the least it took. */
    private static final class Front {
        private final int[] rows = new int[Rows.MOST];
        private final int[] most = new int[Rows.NUMBERS];
        private final int[] least = new int[Rows.NUMBERS];
        int size = 0;

        Front() {
            Arrays.fill(most, NONE);
        }

        void wipe() {
            for (int i = 0; i < size && i < Rows.MOST; i++) {
                most[rowAt(i)] = NONE;
            }
            size = 0;
        }

        void put(int row, int mostTaken, int leastTaken) {
            if (row < 0 || row >= Rows.NUMBERS) {
                return;
            }
            if (most[row] != NONE) {
                most[row] = Math.max(most[row], mostTaken);
                least[row] = Math.min(least[row], leastTaken);
            } else if (size >= 0 && size < Rows.MOST) {
                rows[size] = row;
                size++;
                most[row] = mostTaken;
                least[row] = leastTaken;
            }
        }

        void putAll(Front other) {
            for (int i = 0; i < other.size; i++) {
                int row = other.rowAt(i);
                put(row, other.most[row], other.least[row]);
            }
        }

        void setAs(Front other) {
            wipe();
            putAll(other);
        }

        void setAfterLook(Front before, int line, Cache settings) {
            wipe();
            for (int i = 0; i < before.size; i++) {
                int row = before.rowAt(i);
                int place = Rows.placeOf(row, line);
                if (place == NONE) {
                    put(Rows.afterMiss(row, line, settings.ways),
                            before.most[row] + settings.price, before.least[row] + settings.price);
                } else {
                    put(Rows.afterHit(row, place, settings.ways, settings.kind),
                            before.most[row] + 1, before.least[row] + 1);
                }
            }
        }

        void work() {
            for (int i = 0; i < size; i++) {
                int row = rowAt(i);
                most[row]++;
                least[row]++;
            }
        }

        int mostOfAll() {
            int found = 0;
            for (int i = 0; i < size; i++) {
                found = Math.max(found, most[rowAt(i)]);
            }
            return found;
        }

        int leastOfAll() {
            int found = size == 0 ? 0 : least[rowAt(0)];
            for (int i = 1; i < size; i++) {
                found = Math.min(found, least[rowAt(i)]);
            }
            return found;
        }

        /** Always an index of the rows' arrays. */
        private int rowAt(int i) {
            return i >= 0 && i < Rows.MOST ? rows[i] & (Rows.NUMBERS - 1) : 0;
        }
    }

    /**
     * Goes all ways through a program at once: ways that come to one place with one row are the same
     * from there on. What was found is kept for the questions that ask the same again.
     */
    private static final class Explorer {
        private final Front[] now = new Front[DEEPEST + 1];
        private final Front[] ahead = new Front[DEEPEST];
        private Front unused = new Front();
        private final Cache start = new Cache();
        private boolean known = false;

        Explorer() {
            for (int i = 0; i <= DEEPEST; i++) {
                now[i] = new Front();
            }
            for (int i = 0; i < DEEPEST; i++) {
                ahead[i] = new Front();
            }
        }

        void forget() {
            known = false;
        }

        void explore(Program program, Cache cache) {
            if (known && start.isAs(cache)) {
                return;
            }
            start.setAs(cache);
            now[0].wipe();
            now[0].put(start.row, 0, 0);
            exploreRow(program, 0, program.size, 0);
            known = true;
        }

        int mostTaken() {
            return now[0].mostOfAll();
        }

        int leastTaken() {
            return now[0].leastOfAll();
        }

        int rowsAtEnd() {
            return now[0].size;
        }

        private void exploreRow(Program program, int from, int to, int depth) {
            if (!isWithin(depth, 0, DEEPEST)) {
                return;
            }
            for (int i = from; i < to; i++) {
                int sign = program.signAt(i);
                if (sign == Program.LOOK) {
                    Front before = now[depth];
                    unused.setAfterLook(before, program.lineOfLook(program.valueAt(i)), start);
                    now[depth] = unused;
                    unused = before;
                } else if (sign == Program.WORK) {
                    now[depth].work();
                } else if (sign == Program.FORK) {
                    i = exploreChoice(program, i, depth);
                } else if (sign == Program.LOOP) {
                    i = exploreLoop(program, i, depth);
                }
            }
        }

        /** The place of the choice's end. */
        private int exploreChoice(Program program, int fork, int depth) {
            int middle = program.mateOf(fork);
            int end = program.mateOf(middle);
            if (isWithin(depth, 0, DEEPEST - 1)) {
                ahead[depth].setAs(now[depth]);
                now[depth + 1].setAs(ahead[depth]);
                exploreRow(program, fork + 1, middle, depth + 1);
                now[depth].setAs(now[depth + 1]);
                now[depth + 1].setAs(ahead[depth]);
                exploreRow(program, middle + 1, end, depth + 1);
                now[depth].putAll(now[depth + 1]);
            }
            return end;
        }

        /** The place of the loop's end. */
        private int exploreLoop(Program program, int loop, int depth) {
            int end = program.mateOf(loop);
            if (isWithin(depth, 0, DEEPEST - 1)) {
                int times = program.valueAt(loop);
                now[depth + 1].setAs(now[depth]);
                for (int i = 0; i < times; i++) {
                    exploreRow(program, loop + 1, end, depth + 1);
                    now[depth].putAll(now[depth + 1]);
                }
            }
            return end;
        }
    }

    /** One run through a program by the bits that were chosen, and what it was like. */
    private static final class Runner {
        private int chosen = 0;
        private int taken = 0;
        private int hits = 0;
        private int misses = 0;
        private int asked = 0;

        int run(Program program, Cache cache, int byChosen) {
            chosen = byChosen;
            taken = 0;
            hits = 0;
            misses = 0;
            asked = 0;
            runRow(program, cache, 0, program.size, 0);
            return taken;
        }

        int tell(int what) {
            switch (what) {
                case 0: return hits;
                case 1: return misses;
                default: return asked;
            }
        }

        private void runRow(Program program, Cache cache, int from, int to, int depth) {
            for (int i = from; i < to && depth <= DEEPEST; i++) {
                int sign = program.signAt(i);
                if (sign == Program.LOOK) {
                    runLook(cache, program.lineOfLook(program.valueAt(i)));
                } else if (sign == Program.WORK) {
                    taken++;
                } else if (sign == Program.FORK) {
                    i = runChoice(program, cache, i, depth);
                } else if (sign == Program.LOOP) {
                    i = runLoop(program, cache, i, depth);
                }
            }
        }

        private void runLook(Cache cache, int line) {
            if (Rows.placeOf(cache.row, line) == NONE) {
                misses++;
            } else {
                hits++;
            }
            taken += cache.lookAt(line);
        }

        /** The place of the choice's end. */
        private int runChoice(Program program, Cache cache, int fork, int depth) {
            int middle = program.mateOf(fork);
            int end = program.mateOf(middle);
            if (answersOne()) {
                runRow(program, cache, middle + 1, end, depth + 1);
            } else {
                runRow(program, cache, fork + 1, middle, depth + 1);
            }
            return end;
        }

        /** The place of the loop's end. */
        private int runLoop(Program program, Cache cache, int loop, int depth) {
            int end = program.mateOf(loop);
            int times = program.valueAt(loop);
            for (int i = 0; i < times && answersOne(); i++) {
                runRow(program, cache, loop + 1, end, depth + 1);
            }
            return end;
        }

        private boolean answersOne() {
            boolean one = asked < CHOSEN_BITS && (chosen >> asked & 1) == 1;
            asked++;
            return one;
        }
    }
}
