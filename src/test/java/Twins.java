import java.util.ArrayList;
import java.util.List;
import java.util.function.Consumer;
import java.util.function.ToIntFunction;

/**
 * Two objects that were made by the same calls; one of them gets one call more. All that can be asked of
 * both is compared, then all that lies behind it: each undoing, THE TEXT, and how both go on.
 */
final class Twins {
    private final Due due;
    private final String name;
    private final CacheBounds called = new CacheBounds();
    private final CacheBounds other = new CacheBounds();

    Twins(Due due, String name, Consumer<CacheBounds> making) {
        this.due = due;
        this.name = name;
        making.accept(called);
        making.accept(other);
    }

    /** What the call answers is due, and it changes nothing but the count of its refusal (NONE: no count). */
    void changeNothingBut(int counted, String call, ToIntFunction<CacheBounds> made, int answer) {
        String where = name + ", " + call;
        due.is(where, made.applyAsInt(called), answer);
        for (int what = 0; what < 3; what++) {
            due.is(where + ": count(" + what + ")", called.count(what), other.count(what) + (what == counted ? 1 : 0));
        }
        compare(where, all(called), all(other));
        for (int i = 0; i < 9; i++) {
            due.is(where + ": undo() " + i, called.undo(), other.undo());
            compare(where + ": undone " + i, settings(called), settings(other));
        }
        due.is(where + ": reads()", called.reads(), other.reads());
        compare(where + ": what is read", program(called), program(other));
        due.is(where + ": type('a')", called.type('a'), other.type('a'));
        due.is(where + ": runs(5)", called.runs(5), other.runs(5));
        compare(where + ": what was run", settings(called), settings(other));
        compare(where + ": the run", run(called), run(other));
    }

    private void compare(String where, List<Integer> got, List<Integer> want) {
        due.is(where + ": how much is told", got.size(), want.size());
        for (int i = 0; i < got.size() && i < want.size(); i++) {
            due.is(where + ": what is told, " + i, got.get(i), want.get(i));
        }
    }

    private static List<Integer> all(CacheBounds x) {
        List<Integer> told = settings(x);
        told.addAll(run(x));
        told.addAll(program(x));
        for (int n = 1; n <= 3; n++) {
            told.add(x.worstBy(0, n));
        }
        told.add(x.worstBy(1, 0));
        told.add(x.draws(7, 3));
        return told;
    }

    /** THE CACHE and all that count() tells but how often was refused. */
    private static List<Integer> settings(CacheBounds x) {
        List<Integer> told = new ArrayList<>();
        for (int what = 3; what <= 8; what++) {
            told.add(x.count(what));
        }
        for (int place = 0; place < 4; place++) {
            told.add(x.held(place));
        }
        return told;
    }

    private static List<Integer> run(CacheBounds x) {
        return new ArrayList<>(List.of(x.ran(0), x.ran(1), x.ran(2)));
    }

    private static List<Integer> program(CacheBounds x) {
        List<Integer> told = new ArrayList<>();
        for (int what = 0; what <= 4; what++) {
            told.add(x.told(what));
        }
        for (int k = 0; k < x.told(0); k++) {
            for (int what = 0; what <= 5; what++) {
                told.add(x.of(k, what));
            }
        }
        for (int line = 0; line < 6; line++) {
            told.add(x.behind(0, line));
            told.add(x.behind(1, line));
        }
        told.addAll(List.of(x.sure(0), x.sure(1), x.sure(2), x.sure(3)));
        told.addAll(List.of(x.upper(), x.lower(), x.worst(), x.best(), x.ends(), x.many()));
        return told;
    }
}
