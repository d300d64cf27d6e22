import java.util.ArrayList;
import java.util.List;
import java.util.function.Consumer;
import java.util.function.ToIntFunction;

/**
 * "Refused, changing nothing but how often": each refused call, in objects of several pasts, beside a twin
 * that is not called. And the calls that only ask, and reads() by a FAULT: they change nothing at all.
 */
public final class RefusedTest {
    private static final int LEAST = Integer.MIN_VALUE, MOST = Integer.MAX_VALUE;
    private static final int BAD = 0, NO = 1, FULL = 2, NOTHING = -1;
    private static final Due due = new Due();

    private record Call(String name, ToIntFunction<CacheBounds> made) {
    }

    public static void main(String[] args) {
        badChangesNothing();
        noChangesNothing();
        fullChangesNothing();
        aFaultChangesNothing();
        askingChangesNothing();
        eachRefusalCountsOnce();
        due.end("RefusedTest");
    }

    // ---- the pasts

    private static void type(CacheBounds x, String text) {
        for (int i = 0; i < text.length(); i++) {
            x.type(text.charAt(i));
        }
    }

    private static void newOne(CacheBounds x) {
    }

    /** A program that was read and run, another text, a full row, and calls that can be undone. */
    private static void usedOne(CacheBounds x) {
        Due.read(x, "a(b|c)2[ad]");
        x.ways(3);
        x.kind(3);
        x.price(42);
        Due.looks(x, 0, 4);
        x.runs(0b1101);
        x.clear();
        type(x, "f(e|)");
    }

    /** As many bytes, undoings and refusals as there can be, by one way. */
    private static void fullOne(CacheBounds x) {
        type(x, "9[f]" + ".".repeat(76));
        x.reads();
        x.type('a');
        x.ways(1);
        x.undo();
        x.undo();
        x.price(-1);
        for (int line = 0; line < 6; line++) {
            x.look(line);
        }
        x.runs(1048575);
        x.price(99);
        x.empties();
        x.look(5);
        x.kind(1);
    }

    private static List<Consumer<CacheBounds>> pasts() {
        return List.of(RefusedTest::newOne, RefusedTest::usedOne, RefusedTest::fullOne);
    }

    // ---- the calls

    private static void one(List<Call> into, String name, ToIntFunction<CacheBounds> made) {
        into.add(new Call(name, made));
    }

    private static List<Call> badCalls() {
        List<Call> calls = new ArrayList<>();
        for (int n : new int[] {-1, LEAST, MOST}) {
            one(calls, "ways(" + n + ")", x -> x.ways(n));
            one(calls, "kind(" + n + ")", x -> x.kind(n));
            one(calls, "price(" + n + ")", x -> x.price(n));
            one(calls, "look(" + n + ")", x -> x.look(n));
            one(calls, "type(" + n + ")", x -> x.type(n));
            one(calls, "told(" + n + ")", x -> x.told(n));
            one(calls, "of(" + n + ", 0)", x -> x.of(n, 0));
            one(calls, "of(0, " + n + ")", x -> x.of(0, n));
            one(calls, "sure(" + n + ")", x -> x.sure(n));
            one(calls, "behind(" + n + ", 0)", x -> x.behind(n, 0));
            one(calls, "behind(0, " + n + ")", x -> x.behind(0, n));
            one(calls, "worstBy(" + n + ", 1)", x -> x.worstBy(n, 1));
            one(calls, "worstBy(0, " + n + ")", x -> x.worstBy(0, n));
            one(calls, "runs(" + n + ")", x -> x.runs(n));
            one(calls, "ran(" + n + ")", x -> x.ran(n));
            one(calls, "draws(" + n + ", 1)", x -> x.draws(n, 1));
            one(calls, "draws(1, " + n + ")", x -> x.draws(1, n));
            one(calls, "count(" + n + ")", x -> x.count(n));
        }
        one(calls, "ways(0)", x -> x.ways(0));
        one(calls, "ways(4)", x -> x.ways(4));
        one(calls, "kind(4)", x -> x.kind(4));
        one(calls, "price(1)", x -> x.price(1));
        one(calls, "price(100)", x -> x.price(100));
        one(calls, "look(6)", x -> x.look(6));
        one(calls, "held(-1)", x -> x.held(-1));
        one(calls, "held(LEAST)", x -> x.held(LEAST));
        one(calls, "type(128)", x -> x.type(128));
        one(calls, "told(5)", x -> x.told(5));
        one(calls, "of(told(0), 0)", x -> x.of(x.told(0), 0));
        one(calls, "of(0, 6)", x -> x.of(0, 6));
        one(calls, "sure(4)", x -> x.sure(4));
        one(calls, "behind(2, 0)", x -> x.behind(2, 0));
        one(calls, "behind(1, 6)", x -> x.behind(1, 6));
        one(calls, "worstBy(2, 1)", x -> x.worstBy(2, 1));
        one(calls, "worstBy(0, 0)", x -> x.worstBy(0, 0));
        one(calls, "worstBy(0, 4)", x -> x.worstBy(0, 4));
        one(calls, "runs(1048576)", x -> x.runs(1048576));
        one(calls, "ran(3)", x -> x.ran(3));
        one(calls, "draws(1000000, 1)", x -> x.draws(1000000, 1));
        one(calls, "draws(1, 21)", x -> x.draws(1, 21));
        one(calls, "draws(-1, 21)", x -> x.draws(-1, 21));
        one(calls, "count(9)", x -> x.count(9));
        return calls;
    }

    /** None of these is refused in any past. */
    private static List<Call> askingCalls() {
        List<Call> calls = new ArrayList<>();
        one(calls, "held(0)", x -> x.held(0));
        one(calls, "held(3)", x -> x.held(3));
        one(calls, "held(MOST)", x -> x.held(MOST));
        one(calls, "told(4)", x -> x.told(4));
        one(calls, "sure(3)", x -> x.sure(3));
        one(calls, "behind(1, 5)", x -> x.behind(1, 5));
        one(calls, "upper()", x -> x.upper());
        one(calls, "lower()", x -> x.lower());
        one(calls, "worst()", x -> x.worst());
        one(calls, "best()", x -> x.best());
        one(calls, "ends()", x -> x.ends());
        one(calls, "many()", x -> x.many());
        one(calls, "worstBy(0, 1)", x -> x.worstBy(0, 1));
        one(calls, "worstBy(0, 3)", x -> x.worstBy(0, 3));
        one(calls, "worstBy(1, LEAST)", x -> x.worstBy(1, LEAST));
        one(calls, "ran(2)", x -> x.ran(2));
        one(calls, "draws(0, 0)", x -> x.draws(0, 0));
        one(calls, "draws(999999, 20)", x -> x.draws(999999, 20));
        one(calls, "count(8)", x -> x.count(8));
        one(calls, "digest()", x -> (int) x.digest());
        return calls;
    }

    // ---- the sentences

    // "BAD -2 a number is not as told"
    private static void badChangesNothing() {
        for (Call call : badCalls()) {
            int past = 0;
            for (Consumer<CacheBounds> making : pasts()) {
                new Twins(due, "past " + past++, making).changeNothingBut(BAD, call.name, call.made, -2);
            }
        }
    }

    // "NO -3 as told"
    private static void noChangesNothing() {
        int past = 0;
        for (Consumer<CacheBounds> making : pasts()) {
            Consumer<CacheBounds> allUndone = making.andThen(x -> {
                for (int i = 0; i < 8; i++) {
                    if (x.count(8) > 0) {
                        x.undo();
                    }
                }
            });
            new Twins(due, "past " + past++, allUndone).changeNothingBut(NO, "undo()", x -> x.undo(), -3);
        }
    }

    // "FULL -4 as many as may be"
    private static void fullChangesNothing() {
        for (int c : new int[] {0, ' ', 'a', 127}) {
            int past = 0;
            for (Consumer<CacheBounds> making : pasts()) {
                Consumer<CacheBounds> filled = making.andThen(x -> {
                    for (int i = x.count(3); i < 80; i++) {
                        x.type('.');
                    }
                });
                new Twins(due, "past " + past++, filled).changeNothingBut(FULL, "type(" + c + ")", x -> x.type(c), -4);
            }
        }
    }

    // "By a FAULT all stays, nothing counts."
    private static void aFaultChangesNothing() {
        String[] faulty = {"g", "ab)", "(a|b", "1[1[1[1[a]]]]", "9", "bbbbbbbbbbbbbbbbbbbbbbbbb"};
        int[] faults = {-10, -12, -14, -16, -11, -34};
        for (int i = 0; i < faulty.length; i++) {
            String text = faulty[i];
            int past = 0;
            for (Consumer<CacheBounds> making : pasts()) {
                Consumer<CacheBounds> typed = making.andThen(x -> {
                    x.clear();
                    type(x, text);
                });
                new Twins(due, "past " + past++ + ", '" + text + "'", typed)
                        .changeNothingBut(NOTHING, "reads()", x -> x.reads(), faults[i]);
            }
        }
    }

    private static void askingChangesNothing() {
        for (Call call : askingCalls()) {
            int past = 0;
            for (Consumer<CacheBounds> making : pasts()) {
                CacheBounds third = new CacheBounds();
                making.accept(third);
                int answer = call.made.applyAsInt(third);
                due.holds("past " + past + ", " + call.name + " is not refused", answer >= -1 || call.name.equals("digest()"));
                new Twins(due, "past " + past++, making).changeNothingBut(NOTHING, call.name, call.made, answer);
            }
        }
    }

    private static void eachRefusalCountsOnce() {
        CacheBounds x = new CacheBounds();
        int made = 0;
        for (Call call : badCalls()) {
            call.made.applyAsInt(x);
            made++;
            due.is(call.name + " counts once", x.count(0), made);
        }
        due.is("nothing else counts", x.count(1) + x.count(2), 0);
    }
}
