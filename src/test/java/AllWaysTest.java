import java.util.ArrayList;
import java.util.HashSet;
import java.util.List;
import java.util.Random;
import java.util.Set;

/**
 * Goes every single way through small drawn programs: WORST, BEST, how many ways and ends; and that
 * what is called sure is so, with LRU and the cache empty at the beginning.
 */
public final class AllWaysTest {
    private final Due due;
    private final PlainModel model = new PlainModel();
    private final CacheBounds x = new CacheBounds();

    private AllWaysTest(Due due) {
        this.due = due;
    }

    public static void main(String[] args) {
        Due due = new Due();
        Random random = new Random(7);
        int judged = 0;
        for (int i = 0; i < 40000 && judged < 3000 && !due.anyWrong(); i++) {
            judged += new AllWaysTest(due).judge(random) ? 1 : 0;
        }
        due.is("programs that were gone through", judged, 3000);
        due.end("AllWaysTest");
    }

    private boolean judge(Random random) {
        String text = RandomRunsTest.anyProgram(random, 9);
        model.text = text;
        if (model.reads() < 1 || model.many() < 2 || model.many() > 3000) {
            return false;
        }
        model.ways = 1 + random.nextInt(3);
        model.kind = random.nextInt(4);
        x.ways(model.ways);
        x.kind(model.kind);
        Due.read(x, text);
        for (int i = random.nextInt(4); i > 0; i--) {
            int line = random.nextInt(6);
            x.look(line);
            model.row = PlainModel.afterLook(model.row, line, model.ways, model.kind);
        }
        List<PlainModel.Way> all = allWays();
        Set<List<Integer>> ends = new HashSet<>();
        int most = 0, least = Integer.MAX_VALUE;
        for (PlainModel.Way way : all) {
            most = Math.max(most, way.taken);
            least = Math.min(least, way.taken);
            ends.add(way.row);
        }
        due.is(text + ": many()", x.many(), all.size());
        due.is(text + ": worst()", x.worst(), most);
        due.is(text + ": best()", x.best(), least);
        due.is(text + ": ends()", x.ends(), ends.size());
        judgeSure(text);
        return true;
    }

    private void judgeSure(String text) {
        model.kind = 0;
        model.row = new ArrayList<>();
        int upper = x.upper(), lower = x.lower();
        int[] sorts = new int[24];
        for (int k = 0; k < model.told(0); k++) {
            sorts[k] = x.of(k, 1);
        }
        int[][] behind = new int[2][6];
        for (int line = 0; line < 6; line++) {
            behind[0][line] = x.behind(0, line);
            behind[1][line] = x.behind(1, line);
        }
        for (PlainModel.Way way : allWays()) {
            due.holds(text + ": within the bounds", way.taken >= lower && way.taken <= upper);
            for (int k : way.looksThatMissed) {
                due.holds(text + ": look " + k + " misses and is no sure hit", sorts[k] != 1);
            }
            for (int k : way.looksThatHit) {
                due.holds(text + ": look " + k + " hits and is no sure miss", sorts[k] != 2);
            }
            for (int line = 0; line < 6; line++) {
                int age = way.row.contains(line) ? way.row.indexOf(line) : model.ways;
                due.holds(text + ": MUST behind", behind[0][line] >= age);
                due.holds(text + ": MAY behind", behind[1][line] <= age);
            }
        }
    }

    /** Counts through all rows of answers: the last 0 that was asked becomes 1, what is behind it goes. */
    private List<PlainModel.Way> allWays() {
        List<PlainModel.Way> found = new ArrayList<>();
        List<Integer> answers = new ArrayList<>();
        while (true) {
            List<Integer> now = answers;
            PlainModel.Way way = model.new Way(model.row, i -> i < now.size() ? now.get(i) : 0);
            found.add(way);
            List<Integer> next = new ArrayList<>(now);
            while (next.size() < way.wayAsked) {
                next.add(0);
            }
            int last = next.lastIndexOf(0);
            if (last < 0) {
                return found;
            }
            answers = new ArrayList<>(next.subList(0, last));
            answers.add(1);
        }
    }
}
