import java.util.ArrayList;
import java.util.List;
import java.util.function.Supplier;

/** Two bridges that are led alike but for one call: what that call changed is seen by all that other calls show. */
final class Twins {
    /** A call and its answer, true being 1. */
    interface Call {
        long on(SleepBridge x);
    }

    private static final Call[] LATER = {x -> 0, x -> Check.bit(x.undo()), Twins::undoAll, x -> Check.bit(x.restore(0)), x -> Check.bit(x.restore(1)),
        x -> Check.bit(x.restore(2)), x -> x.hours(3), x -> x.night(), x -> x.read()};

    private final Check check;
    private final Supplier<SleepBridge> made;

    Twins(Check check, Supplier<SleepBridge> made) {
        this.check = check;
        this.made = made;
    }

    /** The call has its answer, and behind it all is as without it, also once things are undone, held ones restored, the tape read. */
    void unchanged(String name, Call call, long answer) {
        alike(name, x -> 0, x -> {
            check.due(name, call.on(x), answer);
            return 0;
        }, true);
    }

    /** Both calls leave the same; the place of a fault is looked at or not. */
    void alike(String name, Call one, Call other, boolean place) {
        for (int i = 0; i < LATER.length; i++) {
            SleepBridge a = made.get();
            SleepBridge b = made.get();
            one.on(a);
            other.on(b);
            String what = name + ", then " + i;
            check.due(what, LATER[i].on(b), LATER[i].on(a));
            check.due(what + ": all else", difference(a, b, place), -1);
        }
    }

    private static long undoAll(SleepBridge x) {
        int things = 0;
        while (things < 50 && x.undo()) {
            things++;
        }
        return things;
    }

    /** Where two pictures differ, NONE if nowhere. */
    private static int difference(SleepBridge a, SleepBridge b, boolean place) {
        List<Integer> one = picture(a, place);
        List<Integer> other = picture(b, place);
        for (int i = 0; i < Math.max(one.size(), other.size()); i++) {
            if (i >= one.size() || i >= other.size() || !one.get(i).equals(other.get(i))) {
                return i;
            }
        }
        return -1;
    }

    /** Some 200 answers, so that an object has fewer than 512 calls in all. */
    static List<Integer> picture(SleepBridge x, boolean place) {
        List<Integer> seen = new ArrayList<>();
        for (int what = 0; what < 19; what++) {
            seen.add(x.count(what));
        }
        seen.add(place ? x.place() : 0);
        seen.add(x.then(1, false, 2, 0));
        seen.add(x.then(2, false, 5, 0));
        for (int s = 0; s < 6; s++) {
            for (int what = 0; what < 6; what++) {
                seen.add(x.sleeper(s, what));
            }
            seen.add(x.tells(s, 0));
            seen.add(x.tells(s, 1));
        }
        for (int c = 0; c < 5; c++) {
            for (int what = 0; what < 5; what++) {
                seen.add(x.crosser(c, what));
            }
            seen.add(x.then(6, false, 0, c));
        }
        for (int span = 0; span < 5; span++) {
            for (int what = 0; what < 4; what++) {
                seen.add(x.span(span, what));
            }
            seen.add(x.dreams(span));
        }
        for (int k = 0; k <= Math.min(20, x.count(10)); k++) {
            seen.add(x.awake(k, -1));
            seen.add(x.awake(k, 0));
        }
        return seen;
    }
}
