/** The edges of promises 16 to 18: mark, explains, next. */
final class ExplainingEdges {
    private static final int NONE = TownClocks.NONE, BAD = TownClocks.BAD;
    private static final int LEAST = Integer.MIN_VALUE, MOST = Integer.MAX_VALUE;

    private ExplainingEdges() {
    }

    /** All explanations that there are: a pipe and its leak each. */
    private static void explained(String when, TownClocks x, int... pipesAndLeaks) {
        int n = pipesAndLeaks.length / 2;
        for (int i = 0; i < n; i++) {
            Due.due(when + ", pipe of " + i, x.explains(i, 0), pipesAndLeaks[2 * i]);
            Due.due(when + ", leak of " + i, x.explains(i, 1), pipesAndLeaks[2 * i + 1]);
        }
        Due.due(when + ", no more pipes", x.explains(n, 0), NONE);
        Due.due(when + ", no more leaks", x.explains(n, 1), NONE);
    }

    /** One pipe of air 100, and a dial of each need. */
    private static TownClocks ofNeeds(int... needs) {
        TownClocks x = new TownClocks();
        x.pipe(NONE, 0, 0);
        for (int need : needs) {
            x.dial(0, need, 0);
        }
        return x;
    }

    // ---- 16

    @Says(promise = 16, words = "A DIAL is of the set that is asked about (1), or not (0): how many are. BAD.")
    static void markIsNoughtOrOne() {
        TownClocks x = Towns.ofDials(40);
        Due.due("not, at first", x.mark(0, 0), 0);
        for (int d = 0; d < 40; d++) {
            Due.due("dial " + d, x.mark(d, 1), d + 1);
        }
        Due.due("one that is already", x.mark(39, 1), 40);
        Due.due("one less", x.mark(39, 0), 39);
        Due.due("one that is not already", x.mark(39, 0), 39);
        for (int d = 0; d < 39; d++) {
            Due.due("dial " + d + " no longer", x.mark(d, 0), 38 - d);
        }
        int[] wrong = {-1, 2, LEAST, MOST};
        for (int is : wrong) {
            Twins.refused("mark(1, " + is + ")", Towns::busy, y -> y.mark(1, is), BAD);
            Twins.refused("mark(0, " + is + ")", Towns::busy, y -> y.mark(0, is), BAD);
        }
        int[] noDials = {-1, 4, 40, NONE, LEAST, MOST};
        for (int dial : noDials) {
            Twins.refused("mark(" + dial + ", 1)", Towns::busy, y -> y.mark(dial, 1), BAD);
        }
        Twins.refused("none is there", TownClocks::new, y -> y.mark(0, 0), BAD);
    }

    @Says(promise = 16, words = "of a set of DIALS, as it is marked by the one who asks")
    static void theSetIsAsMarkedAlone() {
        TownClocks x = ofNeeds(100, 50);
        x.mark(1, 1);
        x.leak(0, 1);
        Due.puffs(x, 11);
        x.right(1);
        x.look(0);
        Due.due("missing, looks and hands mark none", x.mark(1, 1), 1);
        x.dial(0, 100, 0);
        Due.due("a new one is not of it", x.mark(2, 0), 1);
        Due.due("one that would miss anyway is counted, too", ofMissing().mark(0, 1), 1);
    }

    private static TownClocks ofMissing() {
        TownClocks x = new TownClocks();
        x.pipe(NONE, 50, 0);
        x.dial(0, 51, 0);
        return x;
    }

    // ---- 17

    @Says(promise = 17, words = "0 its PIPE, 1 its l. BAD: what; NONE: there are not so many (i below 0, too).")
    static void explainsIsOfThoseThatThereAre() {
        TownClocks x = Towns.fullOfPipes();
        for (int i = 0; i < 30; i++) {
            Due.due("pipe of " + i, x.explains(i, 0), i);
            Due.due("leak of " + i, x.explains(i, 1), 1);
        }
        int[] none = {-1, 30, NONE, LEAST, MOST};
        for (int i : none) {
            Twins.refused("explains(" + i + ", 0)", Towns::fullOfPipes, y -> y.explains(i, 0), NONE);
            Twins.refused("explains(" + i + ", 1)", Towns::fullOfPipes, y -> y.explains(i, 1), NONE);
        }
        int[] wrong = {-1, 2, LEAST, MOST};
        for (int what : wrong) {
            Twins.refused("explains(0, " + what + ")", Towns::busy, y -> y.explains(0, what), BAD);
            Twins.refused("BAD ahead of NONE, what " + what, Towns::busy, y -> y.explains(-1, what), BAD);
        }
        Due.due("no pipes", new TownClocks().explains(0, 0), NONE);
    }

    @Says(promise = 17, words = "a LEAK l (1 to 60) at one PIPE EXPLAINS it")
    static void theLeakIsFromOneToSixty() {
        TownClocks least = ofNeeds(100);
        least.mark(0, 1);
        explained("1 is enough", least, 0, 1);
        TownClocks most = ofNeeds(41);
        most.mark(0, 1);
        explained("60 is needed", most, 0, 60);
        TownClocks above = ofNeeds(40);
        above.mark(0, 1);
        explained("61 would be needed", above);
        explained("a leak of 0 would do, 1 is the least", ofNeeds(99), 0, 1);
        explained("a leak of 0 alone would do", ofNeeds(100));
    }

    @Says(promise = 17, words = "each with the least such l")
    static void theLeastLeakIsTold() {
        TownClocks x = ofNeeds(80, 60);
        x.mark(0, 1);
        explained("21 to 40 would do", x, 0, 21);
        x.mark(1, 1);
        explained("41 to 60 would do", x, 0, 41);
        x.mark(0, 0);
        x.mark(1, 0);
        explained("1 to 20 would do", x, 0, 1);
    }

    @Says(promise = 17, words = "each DIAL would MISS just if it is of the set")
    static void oneThatIsNotOfTheSetMustNotMiss() {
        TownClocks just = ofNeeds(80, 79);
        just.mark(0, 1);
        explained("the other has just its need", just, 0, 21);
        TownClocks same = ofNeeds(80, 80);
        same.mark(0, 1);
        explained("the other needs as much", same);
        TownClocks more = ofNeeds(80, 81);
        more.mark(0, 1);
        explained("the other needs more", more);
        TownClocks apart = new TownClocks();
        apart.pipe(NONE, 0, 0);
        apart.pipe(NONE, 0, 0);
        apart.dial(0, 100, 0);
        apart.dial(1, 100, 0);
        apart.mark(0, 1);
        explained("on a way of its own", apart, 0, 1);
        apart.mark(1, 1);
        explained("one pipe cannot reach both", apart);
    }

    @Says(promise = 17, words = "and no LEAKS elsewhere (those that there are, are not looked at)")
    static void leaksThatThereAreAreNotLookedAt() {
        TownClocks x = new TownClocks();
        x.pipe(NONE, 0, 0);
        x.pipe(0, 0, 0);
        x.dial(1, 90, 0);
        x.mark(0, 1);
        explained("without", x, 0, 11, 1, 11);
        x.leak(1, 11);
        explained("with one that makes it miss", x, 0, 11, 1, 11);
        x.leak(0, 60);
        x.puff();
        explained("with two", x, 0, 11, 1, 11);
        x.mark(0, 0);
        explained("the empty set, with two", x, 0, 1, 1, 1);
    }

    @Says(promise = 17, words = "DIALS that would MISS without any LEAKS are not looked at, marked or not.")
    static void dialsThatMissAnywayAreNotLookedAt() {
        TownClocks x = new TownClocks();
        x.pipe(NONE, 10, 0);
        x.dial(0, 91, 0);
        explained("air 90, need 91", x, 0, 1);
        x.mark(0, 1);
        explained("air 90, need 91, marked", x, 0, 1);
        x.dial(0, 90, 0);
        explained("air 90, need 90: looked at", x);
        x.mark(1, 1);
        explained("air 90, need 90: looked at, marked", x, 0, 1);
        TownClocks empty = new TownClocks();
        empty.pipe(NONE, 50, 0);
        empty.pipe(0, 50, 0);
        empty.dial(1, 1, 0);
        empty.mark(0, 1);
        explained("air 0, need 1", empty, 0, 1, 1, 1);
    }

    @Says(promise = 17, words = "The EXPLANATIONS: PIPES, by numbers")
    static void pipesComeByTheirNumbers() {
        TownClocks x = new TownClocks();
        x.pipe(NONE, 0, 0);
        x.pipe(NONE, 0, 0);
        x.pipe(1, 0, 0);
        x.pipe(0, 0, 0);
        x.dial(0, 100, 0);
        explained("without those that would make it miss", x, 1, 1, 2, 1, 3, 1);
        x.dial(2, 98, 0);
        x.mark(1, 1);
        explained("two on its way", x, 1, 3, 2, 3);
    }

    @Says(promise = 17, words = "EXPLANATION i of that set")
    static void theEmptySetAndNoDials() {
        TownClocks x = new TownClocks();
        explained("no pipes, no dials", x);
        x.pipe(NONE, 50, 0);
        explained("one pipe, no dials", x, 0, 1);
    }

    // ---- 18

    @Says(promise = 18, words = "NONE: fewer than two EXPLANATIONS, or no DIALS.")
    static void nextNeedsTwoExplanationsAndADial() {
        Twins.refused("nothing", TownClocks::new, x -> x.next(), NONE);
        Twins.refused("thirty explanations, no dials", Towns::fullOfPipes, x -> x.next(), NONE);
        TownClocks x = new TownClocks();
        x.pipe(NONE, 0, 0);
        x.dial(0, 100, 0);
        Due.due("no explanation", x.next(), NONE);
        x.mark(0, 1);
        Due.due("one explanation", x.next(), NONE);
        x.pipe(0, 0, 0);
        Due.due("one of two pipes", x.next(), NONE);
        x.mark(0, 0);
        x.pipe(0, 0, 0);
        Due.due("two explanations, one dial, no unlike pair", x.next(), 0);
    }

    @Says(promise = 18, words = "THE NEXT LOOK: a DIAL")
    static void nextIsADialNotAPipe() {
        TownClocks x = new TownClocks();
        for (int p = 0; p < 6; p++) {
            x.pipe(NONE, 0, 0);
        }
        x.pipe(5, 0, 0);
        x.dial(0, 50, 0);
        x.dial(6, 50, 0);
        // All seven pipes explain the empty set; one of them is felt at pipe 0, two at pipe 6.
        Due.due("dial 1, on pipe 6", x.next(), 1);
    }

    @Says(promise = 18, words = "DIALS that would MISS without any LEAKS are not looked at, marked or not.")
    static void nextMayBeADialThatMissesAnyway() {
        TownClocks x = new TownClocks();
        x.pipe(NONE, 50, 0);
        x.pipe(NONE, 0, 0);
        x.pipe(0, 0, 0);
        x.dial(1, 50, 0);
        x.dial(2, 100, 0);
        // It tells nothing of the set, but two of three explanations lower its air.
        Due.due("two of three pairs are unlike at either: the first", x.next(), 0);
        x.pipe(2, 0, 0);
        Due.due("four of six at pipe 2, three at pipe 1", x.next(), 1);
    }

    @Says(promise = 18, words = "the DIAL for which most pairs of EXPLANATIONS would make unlike AIR at its PIPE")
    static void mostUnlikePairs() {
        TownClocks x = new TownClocks();
        x.pipe(NONE, 0, 0);
        x.pipe(0, 0, 0);
        x.pipe(1, 0, 0);
        x.pipe(2, 0, 0);
        // Each pipe explains the empty set by a leak of 1; at pipe p those of 0 .. p are felt.
        x.dial(3, 50, 0);
        Due.due("none of six", x.next(), 0);
        x.dial(2, 50, 0);
        Due.due("three of six", x.next(), 1);
        x.dial(0, 50, 0);
        Due.due("three of six again: the first", x.next(), 1);
        x.dial(1, 50, 0);
        Due.due("four of six", x.next(), 3);
    }

    @Says(promise = 18, words = "each with its least l; of several the first.")
    static void ofSeveralTheFirst() {
        TownClocks x = new TownClocks();
        x.pipe(NONE, 0, 0);
        x.pipe(NONE, 0, 0);
        for (int d = 0; d < 39; d++) {
            x.dial(d % 2, 50, 0);
        }
        Due.due("all alike", x.next(), 0);
        x.pipe(1, 0, 0);
        x.pipe(NONE, 0, 0);
        // Of four explanations one reaches pipe 0, one pipe 1, one pipe 3, two pipe 2.
        x.dial(2, 50, 0);
        Due.due("the last of forty", x.next(), 39);
    }

    @Says(promise = 18, words = "each with its least l; of several the first.")
    static void leaksCountByTheirLeast() {
        TownClocks x = new TownClocks();
        x.pipe(NONE, 0, 0);
        x.pipe(0, 0, 0);
        x.pipe(1, 0, 0);
        x.dial(2, 90, 0);
        x.mark(0, 1);
        // Pipes 0, 1, 2 explain it by 11 each: alike at pipe 2, unlike ahead of it.
        Due.due("alike", x.next(), 0);
        x.dial(0, 80, 0);
        Due.due("one of three unlike", x.next(), 1);
    }

    @Says(promise = {17, 18}, words = "below 0: 0.")
    static void airThatIsNoughtEitherWayIsAlike() {
        TownClocks x = new TownClocks();
        x.pipe(NONE, 50, 0);
        x.pipe(0, 50, 0);
        x.pipe(1, 0, 0);
        x.dial(2, 100, 0);
        x.dial(0, 100, 0);
        Due.due("no air to be unlike in", x.next(), 1);
        TownClocks y = new TownClocks();
        y.pipe(NONE, 50, 0);
        y.pipe(0, 49, 0);
        y.dial(0, 100, 0);
        y.dial(1, 100, 0);
        y.pipe(NONE, 0, 0);
        // Air 1 at pipe 1: 0 by a leak at 0 or 1, 1 by one at 2; so it is at pipe 0, where 49 and 50 are seen.
        Due.due("two of three either way: the first", y.next(), 0);
    }

    @Says(promise = 18, words = "THE NEXT LOOK, with two EXPLANATIONS or more")
    static void nextDoesNotLookAtTheLeaksThatThereAre() {
        TownClocks x = new TownClocks();
        x.pipe(NONE, 0, 0);
        x.pipe(0, 0, 0);
        x.dial(1, 50, 0);
        x.dial(0, 50, 0);
        Due.due("without", x.next(), 1);
        x.leak(0, 60);
        x.leak(1, 60);
        Due.due("with leaks", x.next(), 1);
    }
}
