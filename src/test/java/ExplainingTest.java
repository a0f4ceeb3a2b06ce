/** Promises 16 to 18: mark, explains, next. */
public final class ExplainingTest {
    private static final int NONE = TownClocks.NONE, BAD = TownClocks.BAD;

    public static void main(String[] args) {
        promise16Mark();
        promise17Explains();
        promise17NoDials();
        promise17TwoPipesBehindTheHouse();
        promise17LeaksAtMostSixty();
        promise17DialsThatMissAnyway();
        promise17LeaksThatThereAreAreNotLookedAt();
        promise18Next();
        promise18NoneOrTheFirst();
        promise18DialsThatMissAnyway();
        Due.end();
    }

    private static void explanations(String when, TownClocks x, int... pipesAndLeaks) {
        int n = pipesAndLeaks.length / 2;
        for (int i = 0; i < n; i++) {
            Due.due(when + ", pipe of " + i, x.explains(i, 0), pipesAndLeaks[2 * i]);
            Due.due(when + ", leak of " + i, x.explains(i, 1), pipesAndLeaks[2 * i + 1]);
        }
        Due.due(when + ", no more", x.explains(n, 0), NONE);
        Due.due(when + ", no more", x.explains(n, 1), NONE);
    }

    private static void promise16Mark() {
        TownClocks x = new TownClocks();
        Due.due("16: no such one", x.mark(0, 1), BAD);
        x.pipe(NONE, 0, 0);
        x.dial(0, 50, 0);
        x.dial(0, 50, 0);
        Due.due("16: is above", x.mark(0, 2), BAD);
        Due.due("16: is below", x.mark(0, -1), BAD);
        Due.due("16: dial below", x.mark(-1, 1), BAD);
        Due.due("16: none was", x.mark(0, 0), 0);
        Due.due("16: one", x.mark(1, 1), 1);
        Due.due("16: one again", x.mark(1, 1), 1);
        Due.due("16: two", x.mark(0, 1), 2);
        Due.due("16: one less", x.mark(1, 0), 1);
        Due.due("16: none", x.mark(0, 0), 0);
    }

    private static void promise17Explains() {
        TownClocks x = new TownClocks();
        Due.due("17: what above", x.explains(0, 2), BAD);
        Due.due("17: what below", x.explains(-1, -1), BAD);
        Due.due("17: no pipes", x.explains(0, 0), NONE);
        // The house, 0; behind it 1 and 3; behind 1: 2.
        x.pipe(NONE, 0, 0);
        x.pipe(0, 10, 0);
        x.pipe(1, 10, 0);
        x.pipe(0, 20, 0);
        x.dial(2, 70, 0);
        x.dial(3, 75, 0);
        x.dial(1, 88, 0);
        x.mark(0, 1);
        Due.due("17: i below", x.explains(-1, 0), NONE);
        Due.due("17: i far below", x.explains(Integer.MIN_VALUE, 1), NONE);
        Due.due("17: i far above", x.explains(Integer.MAX_VALUE, 1), NONE);
        explanations("17: one dial", x, 2, 11);
        x.mark(2, 1);
        explanations("17: two of one branch", x, 1, 11);
        x.mark(1, 1);
        explanations("17: all", x, 0, 11);
        x.mark(2, 0);
        explanations("17: none would do", x);
        x.mark(0, 0);
        x.mark(1, 0);
        explanations("17: the empty set", x, 0, 1, 1, 1, 2, 1, 3, 1);
        x.mark(1, 1);
        explanations("17: the other branch", x, 3, 6);
        x.mark(0, 1);
        x.mark(1, 0);
        x.dial(2, 71, 0);
        explanations("17: one that spares less must miss, too", x);
        x.mark(3, 1);
        explanations("17: both", x, 2, 11);
        x.mark(0, 0);
        explanations("17: just the one that spares less", x, 2, 10);
    }

    private static void promise17NoDials() {
        TownClocks x = new TownClocks();
        x.pipe(NONE, 0, 0);
        x.pipe(0, 50, 0);
        explanations("17: no dials, no set", x, 0, 1, 1, 1);
    }

    private static void promise17TwoPipesBehindTheHouse() {
        TownClocks x = new TownClocks();
        x.pipe(NONE, 0, 0);
        x.pipe(NONE, 0, 0);
        x.pipe(1, 0, 0);
        x.dial(2, 100, 0);
        x.mark(0, 1);
        explanations("17: a pipe of its own", x, 1, 1, 2, 1);
    }

    private static void promise17LeaksAtMostSixty() {
        TownClocks x = new TownClocks();
        x.pipe(NONE, 0, 0);
        x.dial(0, 41, 0);
        x.mark(0, 1);
        explanations("17: the greatest leak", x, 0, 60);
        TownClocks y = new TownClocks();
        y.pipe(NONE, 0, 0);
        y.dial(0, 40, 0);
        y.mark(0, 1);
        explanations("17: a leak of 61 would be needed", y);
    }

    private static void promise17DialsThatMissAnyway() {
        TownClocks x = new TownClocks();
        x.pipe(NONE, 10, 0);
        x.pipe(NONE, 0, 0);
        x.dial(0, 91, 0);
        x.dial(0, 90, 0);
        x.mark(1, 1);
        explanations("17: not marked", x, 0, 1);
        x.mark(0, 1);
        explanations("17: marked", x, 0, 1);
        x.mark(1, 0);
        explanations("17: it alone", x, 1, 1);
    }

    private static void promise17LeaksThatThereAreAreNotLookedAt() {
        TownClocks x = new TownClocks();
        x.pipe(NONE, 0, 0);
        x.pipe(0, 0, 0);
        x.dial(1, 100, 0);
        x.dial(0, 80, 0);
        x.mark(0, 1);
        explanations("17: without leaks", x, 0, 1, 1, 1);
        x.leak(0, 60);
        x.leak(1, 5);
        explanations("17: with leaks", x, 0, 1, 1, 1);
        Due.due("18: with leaks", x.next(), 1);
    }

    private static void promise18Next() {
        TownClocks x = new TownClocks();
        x.pipe(NONE, 0, 0);
        x.pipe(0, 0, 0);
        x.pipe(1, 0, 0);
        x.pipe(2, 0, 0);
        // The empty set: each of the pipes 0 .. 3 explains it by a leak of 1.
        x.dial(3, 50, 0);
        x.dial(2, 50, 0);
        x.dial(0, 50, 0);
        x.dial(1, 50, 0);
        // Unlike pairs: all four leaks reach pipe 3 (0); three of them pipe 2 (3), one pipe 0 (3), two pipe 1 (4).
        Due.due("18: most pairs", x.next(), 3);
        x.dial(1, 50, 0);
        Due.due("18: of several the first", x.next(), 3);
        TownClocks y = new TownClocks();
        y.pipe(NONE, 0, 0);
        y.pipe(0, 0, 0);
        y.pipe(NONE, 0, 0);
        y.dial(2, 50, 0);
        y.dial(1, 50, 0);
        Due.due("18: two pairs each, the first", y.next(), 0);
    }

    private static void promise18NoneOrTheFirst() {
        TownClocks x = new TownClocks();
        Due.due("18: no pipes", x.next(), NONE);
        x.pipe(NONE, 0, 0);
        x.pipe(0, 0, 0);
        Due.due("18: no dials", x.next(), NONE);
        x.dial(1, 50, 0);
        Due.due("18: no pair is unlike there", x.next(), 0);
        x.dial(0, 45, 0);
        Due.due("18: one pair", x.next(), 1);
        x.mark(1, 1);
        Due.due("18: no explanations", x.next(), NONE);
        x.mark(0, 1);
        Due.due("18: one explanation", x.next(), NONE);
    }

    private static void promise18DialsThatMissAnyway() {
        TownClocks x = new TownClocks();
        x.pipe(NONE, 50, 0);
        x.pipe(0, 50, 0);
        x.dial(1, 100, 0);
        x.dial(0, 100, 0);
        // No air is left at pipe 1, with any leak: alike there, unlike at pipe 0.
        Due.due("18: one that misses anyway is looked at", x.next(), 1);
    }
}
