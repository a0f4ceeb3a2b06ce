import java.lang.reflect.InvocationTargetException;
import java.lang.reflect.Method;
import java.lang.reflect.Modifier;
import java.util.Arrays;

/** The order of the refusals, where two of them fit, and that the calls which only tell something change nothing. */
final class RefusalEdges {
    private static final int NONE = TownClocks.NONE, BAD = TownClocks.BAD, FULL = TownClocks.FULL,
        KIND = TownClocks.KIND;

    private RefusalEdges() {
    }

    @Says(promise = {2, 5, 19}, words = "the first of these that fits: BAD")
    static void badIsAheadOfFull() {
        TownClocks x = Towns.fullOfPipes();
        Due.due("FULL alone", x.pipe(NONE, 0, 0), FULL);
        Due.due("both", x.pipe(NONE, -1, 0), BAD);
        TownClocks y = Towns.fullOfDials();
        Due.due("FULL alone", y.dial(0, 1, 0), FULL);
        Due.due("both", y.dial(0, 101, 0), BAD);
        TownClocks z = new TownClocks();
        for (int i = 0; i < 38; i++) {
            z.feed(0, i < 37 ? 8 : 4);
        }
        Due.due("FULL alone", z.feed(0, 1), FULL);
        Due.due("both", z.feed(0, 9), BAD);
        Due.due("both", z.feed(0, 0), BAD);
    }

    @Says(promise = {15, 24}, words = "then KIND (a DIAL that is not that)")
    static void badIsAheadOfKind() {
        TownClocks x = Towns.ofSorts(0);
        Due.due("KIND alone", x.ahead(0), KIND);
        Due.due("no such dial", x.ahead(1), BAD);
        Due.due("KIND alone", x.as(0, 1), KIND);
        Due.due("no such dial", x.as(1, 1), BAD);
        Due.due("no such kind", x.as(0, 4), BAD);
    }

    @Says(promise = {2, 3, 4, 5, 7, 9, 10, 11, 12, 13, 14, 15, 16, 17, 19, 22, 23, 24, 25, 26, 27},
        words = "Refusals are answers")
    static void noNumberMakesACallThrow() {
        for (Method call : TownClocks.class.getDeclaredMethods()) {
            if (Modifier.isPublic(call.getModifiers())) {
                withEachNumber(call, new Object[call.getParameterCount()], 0);
            }
        }
    }

    /** Every call with every choice of these numbers: at new towns, and at some that are full. */
    private static void withEachNumber(Method call, Object[] numbers, int from) {
        if (from == numbers.length) {
            TownClocks[] towns = {new TownClocks(), Towns.busy(), Towns.fullOfPipes(), Towns.fullOfDials()};
            for (TownClocks x : towns) {
                Due.holds(call.getName() + Arrays.toString(numbers) + " answers", answers(call, x, numbers));
            }
            return;
        }
        boolean isLong = call.getParameterTypes()[from] == long.class;
        int[] some = {Integer.MIN_VALUE, BAD, NONE, -1, 0, 1, 29, 30, 40, 300, Integer.MAX_VALUE};
        for (int n : some) {
            if (isLong) {
                numbers[from] = ((long) n << 32) | n;
            } else {
                numbers[from] = n;
            }
            withEachNumber(call, numbers, from + 1);
        }
    }

    private static boolean answers(Method call, TownClocks x, Object[] numbers) {
        try {
            call.invoke(x, numbers);
            return true;
        } catch (IllegalAccessException | InvocationTargetException e) {
            return false;
        }
    }

    @Says(promise = {3, 7, 10, 12, 13, 14, 16, 25}, words = "What is refused changes nothing.")
    static void manyRefusedCallsChangeNothing() {
        Twins.refused("all that is refused, one behind the other", Towns::busy, x -> {
            x.pipe(3, 0, 0);
            x.leak(0, 61);
            x.leak(3, 1);
            x.dial(0, 0, 0);
            x.drift(6);
            x.look(4);
            x.put(0, 0);
            x.put(4, 1);
            x.right(4);
            x.round(0);
            x.ahead(2);
            x.mark(0, 2);
            x.mark(4, 1);
            x.feed(0, 9);
            x.as(0, 4);
            x.ask(0, 2);
            return x.ask(4, 0);
        }, BAD);
    }

    @Says(promise = {4, 9, 11, 15, 17, 18, 21, 22, 23, 24, 26, 27},
        words = "Nothing is promised beyond the answers and state changes described above")
    static void whatOnlyTellsChangesNothing() {
        Twins.changesNothing("told", Towns::busy, x -> x.told(0, 2), 6);
        Twins.changesNothing("now", Towns::busy, x -> x.now(1), -9);
        Twins.changesNothing("state", Towns::busy, x -> x.state(0, 0), 3);
        Twins.changesNothing("ahead", Towns::busy, x -> x.ahead(0), 10);
        Twins.changesNothing("explains", Towns::busy, x -> x.explains(0, 0), NONE);
        Twins.changesNothing("next", Towns::busy, x -> x.next(), NONE);
        Twins.changesNothing("fault", Towns::busy, x -> x.fault(), 2);
        Twins.changesNothing("owes", Towns::busy, x -> x.owes(1), 42);
        Twins.changesNothing("kind", Towns::busy, x -> x.kind(3), 3);
        Twins.changesNothing("as", Towns::busy, x -> x.as(1, 1), 3);
        Twins.changesNothing("trace", Towns::busy, x -> x.trace(0), 21);
        Twins.changesNothing("count", Towns::busy, x -> x.count(6), 23);
    }
}
