import java.util.ArrayList;
import java.util.HashMap;
import java.util.HashSet;
import java.util.LinkedHashMap;
import java.util.List;
import java.util.Map;
import java.util.Set;

/**
 * The document once more, in the slowest and plainest form, with lists and trees: what the program
 * answers is compared with it. It shares no thought with the class but the document's words.
 */
final class PlainModel {
    /** A part of a program: a look ('a' .. 'f'), '.', a choice '(' of two rows, a loop '[' of one. */
    static final class Part {
        final char sign;
        final int number;
        final List<Part> first = new ArrayList<>();
        final List<Part> second = new ArrayList<>();

        Part(char sign, int number) {
            this.sign = sign;
            this.number = number;
        }
    }

    static final class Fault extends RuntimeException {
        private static final long serialVersionUID = 1L;
        final int place;

        Fault(int place) {
            this.place = place;
        }
    }

    int ways = 2, kind = 0, price = 10;
    List<Integer> row = new ArrayList<>();
    String text = "";
    List<Part> program = new ArrayList<>();
    int bad, no, full, hits, misses, asked;
    final List<int[]> settingsBefore = new ArrayList<>();
    final List<List<Integer>> rowsBefore = new ArrayList<>();

    // ---- reading

    private int at, looksRead, deep;

    int reads() {
        at = 0;
        looksRead = 0;
        deep = 0;
        List<Part> read = new ArrayList<>();
        try {
            readRow(read);
            if (at < text.length()) {
                throw new Fault(at);
            }
        } catch (Fault fault) {
            return -10 - fault.place;
        }
        program = read;
        return looksRead;
    }

    private int peek() {
        while (at < text.length() && text.charAt(at) == ' ') {
            at++;
        }
        return at < text.length() ? text.charAt(at) : -1;
    }

    private void expect(char c) {
        if (peek() != c) {
            throw new Fault(at);
        }
        at++;
    }

    private void readRow(List<Part> into) {
        while (true) {
            int c = peek();
            if (c >= 'a' && c <= 'f') {
                if (looksRead == 24) {
                    throw new Fault(at);
                }
                into.add(new Part((char) c, looksRead++));
                at++;
            } else if (c == '.') {
                into.add(new Part('.', 0));
                at++;
            } else if (c == '(' || (c >= '1' && c <= '9')) {
                if (deep == 3) {
                    throw new Fault(at);
                }
                into.add(readNested(c));
            } else {
                return;
            }
        }
    }

    private Part readNested(int c) {
        at++;
        deep++;
        Part part;
        if (c == '(') {
            part = new Part('(', 0);
            readRow(part.first);
            expect('|');
            readRow(part.second);
            expect(')');
        } else {
            part = new Part('[', c - '0');
            expect('[');
            readRow(part.first);
            expect(']');
        }
        deep--;
        return part;
    }

    // ---- what is told of a program

    int told(int what) {
        return toldOf(program, what);
    }

    private static int toldOf(List<Part> parts, int what) {
        int found = 0;
        for (Part part : parts) {
            boolean look = part.sign >= 'a' && part.sign <= 'f';
            boolean nested = part.sign == '(' || part.sign == '[';
            int inside = Math.max(toldOf(part.first, 3), toldOf(part.second, 3));
            switch (what) {
                case 0: found += look ? 1 : 0; break;
                case 1: found += part.sign == '(' ? 1 : 0; break;
                case 2: found += part.sign == '[' ? 1 : 0; break;
                case 3: found = Math.max(found, nested ? 1 + inside : 0); break;
                default: found |= look ? 1 << (part.sign - 'a') : 0; break;
            }
            if (what < 3) {
                found += toldOf(part.first, what) + toldOf(part.second, what);
            } else if (what == 4) {
                found |= toldOf(part.first, what) | toldOf(part.second, what);
            }
        }
        return found;
    }

    // ---- following

    final Map<Integer, int[]> lookFacts = new LinkedHashMap<>();
    int[] mustBehind, mayBehind;

    /** Facts of a look: line, sort, must, may, kept, figure. */
    void follow() {
        lookFacts.clear();
        int[][] ages = new int[2][6];
        for (int i = 0; i < 6; i++) {
            ages[0][i] = ways;
            ages[1][i] = ways;
        }
        ages = followRow(program, ages, null);
        mustBehind = ages[0];
        mayBehind = ages[1];
    }

    private int[][] followRow(List<Part> parts, int[][] ages, Part loop) {
        for (Part part : parts) {
            if (part.sign == '(') {
                ages = joined(followRow(part.first, ages, loop), followRow(part.second, ages, loop));
            } else if (part.sign == '[') {
                int[][] entry = ages;
                while (true) {
                    int[][] next = joined(entry, followRow(part.first, ages, part));
                    if (same(next, ages)) {
                        break;
                    }
                    ages = next;
                }
            } else if (part.sign != '.') {
                int x = part.sign - 'a';
                int must = ages[0][x], may = ages[1][x];
                int sort = must < ways ? 1 : may == ways ? 2 : 0;
                boolean kept = sort != 1 && loop != null && Integer.bitCount(toldOf(loop.first, 4)) <= ways;
                lookFacts.put(part.number,
                        new int[] {x, sort, must, may, kept ? 1 : 0, loop == null ? 0 : loop.number});
                ages = looked(ages, x);
            }
        }
        return ages;
    }

    private int[][] looked(int[][] ages, int x) {
        int[][] next = {ages[0].clone(), ages[1].clone()};
        for (int y = 0; y < 6; y++) {
            if (y == x) {
                next[0][y] = 0;
                next[1][y] = 0;
                continue;
            }
            if (ages[0][y] < ages[0][x]) {
                next[0][y] = ages[0][y] + 1;
            }
            if (ages[1][x] == ways || ages[1][y] <= ages[1][x]) {
                next[1][y] = Math.min(ways, ages[1][y] + 1);
            }
        }
        return next;
    }

    private static int[][] joined(int[][] one, int[][] other) {
        int[][] next = new int[2][6];
        for (int i = 0; i < 6; i++) {
            next[0][i] = Math.max(one[0][i], other[0][i]);
            next[1][i] = Math.min(one[1][i], other[1][i]);
        }
        return next;
    }

    private static boolean same(int[][] one, int[][] other) {
        return java.util.Arrays.equals(one[0], other[0]) && java.util.Arrays.equals(one[1], other[1]);
    }

    int upper() {
        follow();
        return upperOf(program);
    }

    private int upperOf(List<Part> parts) {
        int sum = 0;
        for (Part part : parts) {
            switch (part.sign) {
                case '.': sum += 1; break;
                case '(': sum += Math.max(upperOf(part.first), upperOf(part.second)); break;
                case '[': sum += part.number * upperOf(part.first); break;
                default: sum += lookFacts.get(part.number)[1] == 1 ? 1 : price; break;
            }
        }
        return sum;
    }

    int lower() {
        follow();
        return lowerOf(program);
    }

    private int lowerOf(List<Part> parts) {
        int sum = 0;
        for (Part part : parts) {
            switch (part.sign) {
                case '.': sum += 1; break;
                case '(': sum += Math.min(lowerOf(part.first), lowerOf(part.second)); break;
                case '[': break;
                default: sum += lookFacts.get(part.number)[1] == 2 ? price : 1; break;
            }
        }
        return sum;
    }

    // ---- the truth

    /** The row behind a look; whether it was a hit says the row ahead. */
    static List<Integer> afterLook(List<Integer> before, int line, int ways, int kind) {
        List<Integer> next = new ArrayList<>(before);
        int place = next.indexOf(line);
        if (place < 0) {
            next.add(0, line);
            if (next.size() > ways) {
                next.remove(next.size() - 1);
            }
            return next;
        }
        boolean toFront = kind == 0 || (kind == 3 && !(next.size() == ways && place == next.size() - 1));
        if (toFront) {
            next.remove(place);
            next.add(0, line);
        } else if (kind == 2 && place > 0) {
            next.set(place, next.get(place - 1));
            next.set(place - 1, line);
        }
        return next;
    }

    /** For each row the program can end in: the most and the least it took. */
    Map<List<Integer>, long[]> allEnds(List<Integer> from, int byWays) {
        Map<List<Integer>, long[]> start = new HashMap<>();
        start.put(from, new long[] {0, 0});
        return endsOfRow(program, start, byWays);
    }

    private Map<List<Integer>, long[]> endsOfRow(List<Part> parts, Map<List<Integer>, long[]> from, int byWays) {
        Map<List<Integer>, long[]> now = from;
        for (Part part : parts) {
            Map<List<Integer>, long[]> next = new HashMap<>();
            if (part.sign == '(') {
                merge(next, endsOfRow(part.first, now, byWays));
                merge(next, endsOfRow(part.second, now, byWays));
            } else if (part.sign == '[') {
                Map<List<Integer>, long[]> round = now;
                merge(next, round);
                for (int i = 0; i < part.number; i++) {
                    round = endsOfRow(part.first, round, byWays);
                    merge(next, round);
                }
            } else {
                for (Map.Entry<List<Integer>, long[]> entry : now.entrySet()) {
                    List<Integer> row = entry.getKey();
                    int line = part.sign - 'a';
                    boolean work = part.sign == '.';
                    int takes = work || row.contains(line) ? 1 : price;
                    long[] taken = entry.getValue();
                    Map<List<Integer>, long[]> one = new HashMap<>();
                    one.put(work ? row : afterLook(row, line, byWays, kind),
                            new long[] {taken[0] + takes, taken[1] + takes});
                    merge(next, one);
                }
            }
            now = next;
        }
        return now;
    }

    private static void merge(Map<List<Integer>, long[]> into, Map<List<Integer>, long[]> from) {
        for (Map.Entry<List<Integer>, long[]> entry : from.entrySet()) {
            long[] here = into.get(entry.getKey());
            long[] there = entry.getValue();
            into.put(entry.getKey(), here == null ? there.clone()
                    : new long[] {Math.max(here[0], there[0]), Math.min(here[1], there[1])});
        }
    }

    long worst(List<Integer> from, int byWays) {
        return allEnds(from, byWays).values().stream().mapToLong(taken -> taken[0]).max().getAsLong();
    }

    long best() {
        return allEnds(row, ways).values().stream().mapToLong(taken -> taken[1]).min().getAsLong();
    }

    int ends() {
        return allEnds(row, ways).size();
    }

    int many() {
        return manyOf(program).min(java.math.BigInteger.valueOf(1000000000)).intValue();
    }

    private static java.math.BigInteger manyOf(List<Part> parts) {
        java.math.BigInteger product = java.math.BigInteger.ONE;
        for (Part part : parts) {
            if (part.sign == '(') {
                product = product.multiply(manyOf(part.first).add(manyOf(part.second)));
            } else if (part.sign == '[') {
                java.math.BigInteger sum = java.math.BigInteger.ZERO;
                for (int i = 0; i <= part.number; i++) {
                    sum = sum.add(manyOf(part.first).pow(i));
                }
                product = product.multiply(sum);
            }
        }
        return product;
    }

    // ---- single ways

    /** One way by an endless row of answers; after it the fields tell what was met. */
    final class Way {
        final java.util.function.IntUnaryOperator answers;
        final Set<Integer> looksThatHit = new HashSet<>();
        final Set<Integer> looksThatMissed = new HashSet<>();
        List<Integer> row;
        int taken, wayHits, wayMisses, wayAsked;

        Way(List<Integer> from, java.util.function.IntUnaryOperator answers) {
            this.row = from;
            this.answers = answers;
            go(program);
        }

        private boolean one() {
            return answers.applyAsInt(wayAsked++) == 1;
        }

        private void go(List<Part> parts) {
            for (Part part : parts) {
                if (part.sign == '.') {
                    taken++;
                } else if (part.sign == '(') {
                    go(one() ? part.second : part.first);
                } else if (part.sign == '[') {
                    int done = 0;
                    while (done < part.number && one()) {
                        go(part.first);
                        done++;
                    }
                } else {
                    boolean hit = row.contains(part.sign - 'a');
                    taken += hit ? 1 : price;
                    wayHits += hit ? 1 : 0;
                    wayMisses += hit ? 0 : 1;
                    (hit ? looksThatHit : looksThatMissed).add(part.number);
                    row = afterLook(row, part.sign - 'a', ways, kind);
                }
            }
        }
    }

    Way wayBy(int chosen) {
        return new Way(row, i -> i < 20 ? chosen >> i & 1 : 0);
    }

    int draws(int seed, int n) {
        java.math.BigInteger x = java.math.BigInteger.valueOf(seed);
        int most = 0;
        for (int i = 0; i < n; i++) {
            x = x.multiply(java.math.BigInteger.valueOf(1103515245)).add(java.math.BigInteger.valueOf(12345))
                    .mod(java.math.BigInteger.valueOf(2147483648L));
            most = Math.max(most, wayBy((int) (x.longValue() / 1024 % 1048576)).taken);
        }
        return most;
    }

    // ---- undoing

    void remember() {
        settingsBefore.add(new int[] {ways, kind, price});
        rowsBefore.add(new ArrayList<>(row));
        if (settingsBefore.size() > 8) {
            settingsBefore.remove(0);
            rowsBefore.remove(0);
        }
    }

    int undo() {
        if (settingsBefore.isEmpty()) {
            no++;
            return -3;
        }
        int[] settings = settingsBefore.remove(settingsBefore.size() - 1);
        ways = settings[0];
        kind = settings[1];
        price = settings[2];
        row = rowsBefore.remove(rowsBefore.size() - 1);
        return settingsBefore.size();
    }

    int count(int what) {
        int[] all = {bad, no, full, text.length(), ways, kind, price, row.size(), settingsBefore.size()};
        return all[what];
    }

    long digest() {
        List<Integer> values = new ArrayList<>();
        for (int i = 0; i < 9; i++) {
            values.add(count(i));
        }
        values.addAll(row);
        for (int i = 0; i < 5; i++) {
            values.add(told(i));
        }
        values.add(hits);
        values.add(misses);
        values.add(asked);
        long h = 1999;
        for (int v : values) {
            h = 31 * h + v;
        }
        return h;
    }
}
