import java.util.ArrayList;
import java.util.Random;

/** Long runs of drawn calls, right and wrong ones, against the plain model. */
public final class RandomRunsTest {
    private static final int[] EDGES = {Integer.MIN_VALUE, -1, 0, 1, 2, 3, 4, 5, 6, 8, 9, 20, 21, 99, 100, 127, 128,
        999999, 1000000, 1048575, 1048576, Integer.MAX_VALUE};

    private final Random random;
    private final Due due;
    private final CacheBounds x = new CacheBounds();
    private final PlainModel model = new PlainModel();
    private final StringBuilder log = new StringBuilder();

    private RandomRunsTest(long seed, Due due) {
        this.random = new Random(seed);
        this.due = due;
        log.append("seed ").append(seed).append(": ");
    }

    public static void main(String[] args) {
        Due due = new Due();
        for (int seed = 0; seed < 1500 && !due.anyWrong(); seed++) {
            new RandomRunsTest(seed, due).go();
        }
        due.end("RandomRunsTest");
    }

    private void go() {
        int calls = 0;
        while (calls < 400) {
            calls += random.nextInt(12) == 0 ? program() : one();
        }
    }

    private void is(String call, long got, long want) {
        log.append(call).append("; ");
        if (got != want) {
            System.out.println(log);
        }
        due.is(call, got, want);
    }

    private int within(int least, int most) {
        return random.nextInt(12) == 0 ? EDGES[random.nextInt(EDGES.length)]
                : least + random.nextInt(most - least + 1);
    }

    /** What is due where BAD is due else. */
    private int bad() {
        model.bad++;
        return -2;
    }

    private static boolean in(int n, int least, int most) {
        return n >= least && n <= most;
    }

    // ---- programs

    static String anyProgram(Random random, int looks) {
        StringBuilder text = new StringBuilder();
        int[] left = {looks};
        row(random, text, 0, left);
        if (random.nextInt(6) == 0 && text.length() > 0) {
            String signs = "abf.(|)[]0123 9gx";
            text.setCharAt(random.nextInt(text.length()), signs.charAt(random.nextInt(signs.length())));
        }
        if (random.nextInt(12) == 0) {
            text.setLength(random.nextInt(text.length() + 1));
        }
        if (random.nextInt(5) == 0) {
            text.insert(random.nextInt(text.length() + 1), ' ');
        }
        return text.length() > 80 ? text.substring(0, 80) : text.toString();
    }

    private static void row(Random random, StringBuilder text, int depth, int[] left) {
        int parts = random.nextInt(5);
        for (int i = 0; i < parts && text.length() < 70; i++) {
            int sort = random.nextInt(10);
            if (sort < 5 && left[0] > 0) {
                left[0]--;
                text.append((char) ('a' + random.nextInt(random.nextBoolean() ? 6 : 3)));
            } else if (sort == 5) {
                text.append('.');
            } else if (sort < 8 && depth < (random.nextInt(20) == 0 ? 4 : 3)) {
                text.append('(');
                row(random, text, depth + 1, left);
                text.append('|');
                row(random, text, depth + 1, left);
                text.append(')');
            } else if (depth < (random.nextInt(20) == 0 ? 4 : 3)) {
                text.append((char) ('1' + random.nextInt(random.nextInt(4) == 0 ? 9 : 3))).append('[');
                row(random, text, depth + 1, left);
                text.append(']');
            }
        }
    }

    private int program() {
        String text = anyProgram(random, 26);
        is("clear()", x.clear(), model.text.length());
        model.text = "";
        for (int i = 0; i < text.length(); i++) {
            type(text.charAt(i));
        }
        reads();
        return text.length() + 2;
    }

    private void type(int c) {
        int want;
        if (!in(c, 0, 127)) {
            want = bad();
        } else if (model.text.length() == 80) {
            model.full++;
            want = -4;
        } else {
            model.text += (char) c;
            want = model.text.length();
        }
        is("type(" + c + ")", x.type(c), want);
    }

    private void reads() {
        is("reads()", x.reads(), model.reads());
    }

    // ---- single calls

    private int one() {
        switch (random.nextInt(24)) {
            case 0: ways(); break;
            case 1: kind(); break;
            case 2: price(); break;
            case 3: empties(); break;
            case 4: look(); break;
            case 5: held(); break;
            case 6: type(within(0, 127)); break;
            case 7: told(); break;
            case 8: of(); break;
            case 9: sure(); break;
            case 10: behind(); break;
            case 11: is("upper()", x.upper(), model.upper()); break;
            case 12: is("lower()", x.lower(), model.lower()); break;
            case 13: is("worst()", x.worst(), model.worst(model.row, model.ways)); break;
            case 14: is("best()", x.best(), model.best()); break;
            case 15: is("ends()", x.ends(), model.ends()); break;
            case 16: is("many()", x.many(), model.many()); break;
            case 17: worstBy(); break;
            case 18: runs(); break;
            case 19: ran(); break;
            case 20: is("undo()", x.undo(), model.undo()); break;
            case 21: draws(); break;
            case 22: count(); break;
            default: is("digest()", x.digest(), model.digest()); break;
        }
        return 1;
    }

    private void ways() {
        int n = within(1, 3);
        int want = model.ways;
        if (!in(n, 1, 3)) {
            want = bad();
        } else {
            model.remember();
            model.ways = n;
            while (model.row.size() > n) {
                model.row = new ArrayList<>(model.row.subList(0, n));
            }
        }
        is("ways(" + n + ")", x.ways(n), want);
    }

    private void kind() {
        int k = within(0, 3);
        int want = model.kind;
        if (!in(k, 0, 3)) {
            want = bad();
        } else {
            model.remember();
            model.kind = k;
        }
        is("kind(" + k + ")", x.kind(k), want);
    }

    private void price() {
        int n = within(2, 99);
        int want = model.price;
        if (!in(n, 2, 99)) {
            want = bad();
        } else {
            model.remember();
            model.price = n;
        }
        is("price(" + n + ")", x.price(n), want);
    }

    private void empties() {
        int want = model.row.size();
        model.remember();
        model.row = new ArrayList<>();
        is("empties()", x.empties(), want);
    }

    private void look() {
        int line = within(0, 5);
        int want;
        if (!in(line, 0, 5)) {
            want = bad();
        } else {
            model.remember();
            want = model.row.contains(line) ? 1 : model.price;
            model.row = PlainModel.afterLook(model.row, line, model.ways, model.kind);
        }
        is("look(" + line + ")", x.look(line), want);
    }

    private void held() {
        int k = within(0, 3);
        is("held(" + k + ")", x.held(k), k < 0 ? bad() : k < model.row.size() ? model.row.get(k) : -1);
    }

    private void told() {
        int what = within(0, 4);
        is("told(" + what + ")", x.told(what), in(what, 0, 4) ? model.told(what) : bad());
    }

    private void of() {
        int k = within(0, 12);
        int what = within(0, 5);
        model.follow();
        boolean fine = in(k, 0, model.told(0) - 1) && in(what, 0, 5);
        is("of(" + k + ", " + what + ")", x.of(k, what), fine ? model.lookFacts.get(k)[what] : bad());
    }

    private void sure() {
        int what = within(0, 3);
        model.follow();
        int want = 0;
        for (int[] facts : model.lookFacts.values()) {
            want += what == 3 ? facts[4] : facts[1] == what ? 1 : 0;
        }
        is("sure(" + what + ")", x.sure(what), in(what, 0, 3) ? want : bad());
    }

    private void behind() {
        int sort = within(0, 1);
        int line = within(0, 5);
        model.follow();
        boolean fine = in(sort, 0, 1) && in(line, 0, 5);
        is("behind(" + sort + ", " + line + ")", x.behind(sort, line),
                !fine ? bad() : sort == 0 ? model.mustBehind[line] : model.mayBehind[line]);
    }

    private void worstBy() {
        int what = within(0, 1);
        int n = within(1, 3);
        long want;
        if (what == 1) {
            want = 1;
            for (int ways = 2; ways <= 3; ways++) {
                if (model.worst(new ArrayList<>(), ways) < model.worst(new ArrayList<>(), (int) want)) {
                    want = ways;
                }
            }
        } else if (what == 0 && in(n, 1, 3)) {
            want = model.worst(new ArrayList<>(), n);
        } else {
            want = bad();
        }
        is("worstBy(" + what + ", " + n + ")", x.worstBy(what, n), want);
    }

    private void runs() {
        int chosen = random.nextInt(3) == 0 ? within(0, 1048575) | within(0, 1048575) : within(0, 1048575);
        int want;
        if (!in(chosen, 0, 1048575)) {
            want = bad();
        } else {
            model.remember();
            PlainModel.Way way = model.wayBy(chosen);
            want = way.taken;
            model.row = way.row;
            model.hits = way.wayHits;
            model.misses = way.wayMisses;
            model.asked = way.wayAsked;
        }
        is("runs(" + chosen + ")", x.runs(chosen), want);
    }

    private void ran() {
        int what = within(0, 2);
        int[] all = {model.hits, model.misses, model.asked};
        is("ran(" + what + ")", x.ran(what), in(what, 0, 2) ? all[what] : bad());
    }

    private void draws() {
        int seed = within(0, 999999);
        int n = within(0, 20);
        boolean fine = in(seed, 0, 999999) && in(n, 0, 20);
        is("draws(" + seed + ", " + n + ")", x.draws(seed, n), fine ? model.draws(seed, n) : bad());
    }

    private void count() {
        int what = within(0, 8);
        is("count(" + what + ")", x.count(what), in(what, 0, 8) ? model.count(what) : bad());
    }
}
