import java.util.ArrayList;
import java.util.List;
import java.util.function.Supplier;
import java.util.function.ToLongFunction;

/**
 * Two towns made by the same calls: what is refused on one of them must leave them alike. They are asked all that can
 * be asked, what a call that changes things brings to light (drift, marks, the bytes on the tape) last.
 */
final class Twins {
    /** An object is promised to answer 512 calls; so new twins are made for each part of the asking. */
    private static final int PARTS = 5;

    private Twins() {
    }

    static void refused(String call, Supplier<TownClocks> made, ToLongFunction<TownClocks> asked, long answer) {
        changesNothing(call, made, asked, answer);
    }

    static void changesNothing(String call, Supplier<TownClocks> made, ToLongFunction<TownClocks> asked, long answer) {
        for (int part = 0; part < PARTS; part++) {
            TownClocks touched = made.get();
            Due.due(call, asked.applyAsLong(touched), answer);
            List<Long> want = answers(made.get(), part);
            List<Long> got = answers(touched, part);
            Due.holds(call + " changes nothing, part " + part + ": " + want + ", but " + got, got.equals(want));
        }
    }

    private static List<Long> answers(TownClocks x, int part) {
        List<Long> all = new ArrayList<>();
        switch (part) {
            case 0 -> ofPipes(x, all);
            case 1 -> ofDials(x, all);
            case 2 -> ofKinds(x, all);
            case 3 -> ofWhatIsFed(x, all);
            default -> ofWhatComes(x, all);
        }
        return all;
    }

    private static void ofPipes(TownClocks x, List<Long> all) {
        for (int what = 0; what <= 7; what++) {
            all.add((long) x.count(what));
        }
        for (int what = 0; what <= 4; what++) {
            all.add(x.now(what));
        }
        for (int p = 0; p < x.count(0); p++) {
            for (int what = 0; what <= 2; what++) {
                all.add((long) x.told(p, what));
            }
        }
        for (int i = 0; i <= x.count(0); i++) {
            all.add((long) x.explains(i, 0));
            all.add((long) x.explains(i, 1));
        }
        all.add((long) x.next());
    }

    private static void ofDials(TownClocks x, List<Long> all) {
        int dials = x.count(1);
        for (int d = 0; d < dials; d++) {
            for (int what = 0; what <= 5; what++) {
                all.add((long) x.state(d, what));
            }
            all.add((long) x.owes(d));
        }
    }

    private static void ofKinds(TownClocks x, List<Long> all) {
        for (int i = 0; i <= 16; i++) {
            all.add((long) x.trace(i));
        }
        all.add((long) x.fault());
        int dials = x.count(1);
        for (int d = 0; d < dials; d++) {
            all.add((long) x.kind(d));
            all.add((long) x.as(d, 1));
            all.add((long) x.ahead(d));
            all.add((long) x.ask(d, 1));
        }
    }

    private static void ofWhatIsFed(TownClocks x, List<Long> all) {
        all.add((long) x.contracts());
        all.add((long) x.fault());
        all.add((long) x.puff());
        for (int d = 0; d < x.count(1); d++) {
            all.add((long) x.owes(d));
        }
    }

    private static void ofWhatComes(TownClocks x, List<Long> all) {
        all.add((long) x.drift(0));
        all.add((long) x.puff());
        all.add(x.sight());
        int dials = x.count(1);
        for (int d = 0; d < dials; d++) {
            all.add((long) x.mark(d, 0));
            all.add((long) x.state(d, 2));
            all.add((long) x.state(d, 3));
            all.add((long) x.owes(d));
            all.add((long) x.right(d));
        }
        all.add((long) x.pipe(TownClocks.NONE, 1, 1));
        all.add((long) x.dial(0, 1, 1));
    }
}
