/** The edges of promises 1 to 5: a new object, pipe, leak, told, dial. */
final class PipesAndDialsEdges {
    private static final int NONE = TownClocks.NONE, BAD = TownClocks.BAD, FULL = TownClocks.FULL;
    private static final int LEAST = Integer.MIN_VALUE, MOST = Integer.MAX_VALUE;

    private PipesAndDialsEdges() {
    }

    @Says(promise = 1, words = "No PIPES, no DIALS, minute 0, DRIFT 0, OFF 0.")
    static void aNewObjectIsEmpty() {
        TownClocks x = new TownClocks();
        for (int what = 0; what <= 7; what++) {
            Due.due("count(" + what + ")", x.count(what), 0);
        }
        for (int what = 0; what <= 4; what++) {
            Due.due("now(" + what + ")", x.now(what), 0);
        }
        Due.due("no pipe 0", x.told(0, 0), BAD);
        Due.due("no dial 0", x.state(0, 0), BAD);
        Due.due("no fault", x.fault(), 0);
        Due.due("no trace", x.trace(0), NONE);
        Due.due("no explanation", x.explains(0, 0), NONE);
        Due.due("no next look", x.next(), NONE);
        Due.due("drift", x.drift(1), 0);
    }

    @Says(promise = 1, words = "No PIPES, no DIALS, minute 0, DRIFT 0, OFF 0.")
    static void aNewObjectSharesNothingWithAnEarlierOne() {
        Towns.busy();
        aNewObjectIsEmpty();
    }

    @Says(promise = {2, 5, 17, 26}, words = "Numbers go from 0 on.")
    static void numbersGoFromNoughtOn() {
        TownClocks x = new TownClocks();
        Due.due("the first pipe", x.pipe(NONE, 0, 0), 0);
        Due.due("the second pipe", x.pipe(NONE, 0, 0), 1);
        Due.due("the first dial", x.dial(0, 1, 0), 0);
        Due.due("the second dial", x.dial(0, 1, 0), 1);
        Due.due("the first explanation", x.explains(0, 1), 1);
        x.ask(0, 0);
        Due.due("the first of the trace", x.trace(0), 10);
    }

    @Says(promise = 2, words = "A PIPE: its number.")
    static void aRefusedPipeTakesNoNumber() {
        TownClocks x = new TownClocks();
        x.pipe(NONE, 0, 0);
        Due.due("refused", x.pipe(NONE, 51, 0), BAD);
        Due.due("refused", x.pipe(1, 0, 0), BAD);
        Due.due("the next number", x.pipe(0, 50, 20), 1);
    }

    @Says(promise = 2, words = "PIPES 0 .. 29 (30 at most)")
    static void pipesAreThirtyAtMost() {
        TownClocks x = new TownClocks();
        for (int p = 0; p < 30; p++) {
            Due.due("pipe " + p, x.pipe(NONE, 0, 0), p);
        }
        Due.due("how many", x.count(0), 30);
        Due.due("the last is there", x.told(29, 0), 100);
        Due.due("no other is", x.told(30, 0), BAD);
    }

    @Says(promise = 2, words = "BAD: parent (NONE, or there), LOSS, LAG; FULL: 30.")
    static void theThirtyFirstPipeIsRefused() {
        Twins.refused("behind the house", Towns::fullOfPipes, x -> x.pipe(NONE, 0, 0), FULL);
        Twins.refused("behind the last", Towns::fullOfPipes, x -> x.pipe(29, 50, 20), FULL);
        Twins.refused("parent BAD ahead of FULL", Towns::fullOfPipes, x -> x.pipe(30, 0, 0), BAD);
        Twins.refused("LOSS BAD ahead of FULL", Towns::fullOfPipes, x -> x.pipe(NONE, 51, 0), BAD);
        Twins.refused("LAG BAD ahead of FULL", Towns::fullOfPipes, x -> x.pipe(NONE, 0, 21), BAD);
    }

    @Says(promise = 2, words = "each behind an earlier one or THE HOUSE (NONE)")
    static void aPipeIsBehindAnEarlierOneOrTheHouse() {
        Twins.refused("none is there", TownClocks::new, x -> x.pipe(0, 0, 0), BAD);
        int[] wrong = {-1, 3, 4, NONE + 1, NONE - 1, LEAST, MOST};
        for (int parent : wrong) {
            Twins.refused("behind " + parent, Towns::busy, x -> x.pipe(parent, 0, 0), BAD);
        }
        TownClocks x = Towns.busy();
        Due.due("behind the latest", x.pipe(2, 0, 0), 3);
        Due.due("behind the one that came just now", x.pipe(3, 0, 0), 4);
        Due.due("behind the first", x.pipe(0, 0, 0), 5);
        Due.due("behind the house", x.pipe(NONE, 0, 0), 6);
    }

    @Says(promise = 2, words = "with a LOSS 0 to 50")
    static void lossIsFromNoughtToFifty() {
        TownClocks x = new TownClocks();
        Due.due("0", x.pipe(NONE, 0, 0), 0);
        Due.due("50", x.pipe(NONE, 50, 0), 1);
        Due.due("air behind 0", x.told(0, 0), 100);
        Due.due("air behind 50", x.told(1, 0), 50);
        int[] wrong = {-1, 51, LEAST, MOST};
        for (int loss : wrong) {
            Twins.refused("" + loss, Towns::busy, y -> y.pipe(NONE, loss, 0), BAD);
        }
    }

    @Says(promise = 2, words = "a LAG 0 to 20 (tenths of seconds)")
    static void lagIsFromNoughtToTwenty() {
        TownClocks x = new TownClocks();
        Due.due("0", x.pipe(NONE, 0, 0), 0);
        Due.due("20", x.pipe(NONE, 0, 20), 1);
        Due.due("lag of 0", x.told(0, 1), 0);
        Due.due("lag of 20", x.told(1, 1), 20);
        int[] wrong = {-1, 21, LEAST, MOST};
        for (int lag : wrong) {
            Twins.refused("" + lag, Towns::busy, y -> y.pipe(NONE, 0, lag), BAD);
        }
    }

    @Says(promise = 3, words = "LEAK 0 at first (0 to 60)")
    static void leakIsFromNoughtToSixty() {
        TownClocks x = new TownClocks();
        x.pipe(NONE, 0, 0);
        Due.due("told at first", x.told(0, 2), 0);
        Due.due("at first, set to 60", x.leak(0, 60), 0);
        Due.due("60 is told", x.told(0, 2), 60);
        Due.due("set to 0", x.leak(0, 0), 60);
        Due.due("0 is told", x.told(0, 2), 0);
        int[] wrong = {-1, 61, LEAST, MOST};
        for (int v : wrong) {
            Twins.refused("" + v, Towns::busy, y -> y.leak(0, v), BAD);
        }
    }

    @Says(promise = 3, words = "A PIPE's LEAK: what it was. BAD.")
    static void leakIsOfAPipeThatIsThere() {
        TownClocks x = Towns.fullOfPipes();
        Due.due("the last", x.leak(29, 1), 0);
        Due.due("what it was", x.leak(29, 1), 1);
        Due.due("another one's", x.leak(28, 1), 0);
        int[] wrong = {-1, 3, NONE, LEAST, MOST};
        for (int pipe : wrong) {
            Twins.refused("of " + pipe, Towns::busy, y -> y.leak(pipe, 1), BAD);
        }
        Twins.refused("none is there", TownClocks::new, y -> y.leak(0, 0), BAD);
    }

    @Says(promise = 4, words = "Of a PIPE: 0 AIR, 1 LAG in all, 2 LEAK. BAD.")
    static void toldIsOfAPipeThatIsThere() {
        TownClocks x = Towns.busy();
        long[][] want = {{84, 7, 6}, {60, 15, 4}, {95, 20, 0}};
        for (int p = 0; p < 3; p++) {
            for (int what = 0; what <= 2; what++) {
                Due.due("told(" + p + ", " + what + ")", x.told(p, what), want[p][what]);
            }
        }
        int[] wrongPipes = {-1, 3, NONE, LEAST, MOST};
        for (int pipe : wrongPipes) {
            Twins.refused("of " + pipe, Towns::busy, y -> y.told(pipe, 0), BAD);
        }
        int[] wrongWhats = {-1, 3, LEAST, MOST};
        for (int what : wrongWhats) {
            Twins.refused("what " + what, Towns::busy, y -> y.told(0, what), BAD);
        }
    }

    @Says(promise = 4, words = "that of the one ahead of it (THE HOUSE: 100), less its LOSS and its LEAK")
    static void airIsThatOfTheOneAhead() {
        TownClocks x = new TownClocks();
        x.pipe(NONE, 1, 0);
        x.pipe(0, 2, 0);
        x.pipe(0, 4, 0);
        x.pipe(1, 8, 0);
        airs("losses alone", x, 99, 97, 95, 89);
        x.leak(1, 16);
        airs("a leak is felt there and behind it alone", x, 99, 81, 95, 73);
        x.leak(3, 32);
        airs("a leak at the end is felt there alone", x, 99, 81, 95, 41);
        x.leak(0, 1);
        airs("a leak at the first is felt by all", x, 98, 80, 94, 40);
    }

    private static void airs(String when, TownClocks x, int... want) {
        for (int p = 0; p < want.length; p++) {
            Due.due(when + ", pipe " + p, x.told(p, 0), want[p]);
        }
    }

    @Says(promise = 4, words = "below 0: 0.")
    static void airIsNeverBelowNought() {
        TownClocks x = new TownClocks();
        x.pipe(NONE, 50, 0);
        x.pipe(0, 0, 0);
        x.leak(0, 49);
        airs("just above", x, 1, 1);
        x.leak(0, 50);
        airs("just 0", x, 0, 0);
        x.leak(0, 51);
        airs("below", x, 0, 0);
        x.leak(0, 60);
        x.leak(1, 60);
        airs("far below", x, 0, 0);
        x.pipe(1, 50, 0);
        x.pipe(2, 0, 0);
        airs("behind one that has none", x, 0, 0, 0, 0);
        x.leak(0, 0);
        x.leak(1, 0);
        airs("by losses alone, just 0", x, 50, 50, 0, 0);
    }

    @Says(promise = 4, words = "Its LAG in all: those of all PIPES from THE HOUSE to it.")
    static void lagInAllIsOfTheWholeWay() {
        TownClocks x = Towns.fullOfPipes();
        Due.due("one pipe", x.told(0, 1), 20);
        Due.due("two pipes", x.told(1, 1), 40);
        Due.due("thirty pipes", x.told(29, 1), 600);
        x.leak(0, 5);
        Due.due("a leak is no lag", x.told(29, 1), 600);
        TownClocks y = new TownClocks();
        y.pipe(NONE, 0, 3);
        y.pipe(0, 0, 4);
        y.pipe(0, 0, 5);
        y.pipe(NONE, 0, 6);
        Due.due("a branch", y.told(2, 1), 8);
        Due.due("another way from the house", y.told(3, 1), 6);
    }

    @Says(promise = 5, words = "DIALS 0 .. 39 (40 at most)")
    static void dialsAreFortyAtMost() {
        TownClocks x = new TownClocks();
        x.pipe(NONE, 0, 0);
        for (int d = 0; d < 40; d++) {
            Due.due("dial " + d, x.dial(0, 1, 0), d);
        }
        Due.due("how many", x.count(1), 40);
        Due.due("the last is there", x.state(39, 5), 1);
        Due.due("no other is", x.state(40, 5), BAD);
    }

    @Says(promise = 5, words = "BAD: PIPE, NEED, sort; FULL: 40.")
    static void theFortyFirstDialIsRefused() {
        Twins.refused("one more", Towns::fullOfDials, x -> x.dial(0, 1, 0), FULL);
        Twins.refused("PIPE BAD ahead of FULL", Towns::fullOfDials, x -> x.dial(1, 1, 0), BAD);
        Twins.refused("NEED BAD ahead of FULL", Towns::fullOfDials, x -> x.dial(0, 0, 0), BAD);
        Twins.refused("sort BAD ahead of FULL", Towns::fullOfDials, x -> x.dial(0, 1, 3), BAD);
    }

    @Says(promise = 5, words = "each on a PIPE")
    static void aDialIsOnAPipeThatIsThere() {
        Twins.refused("none is there", TownClocks::new, x -> x.dial(0, 1, 0), BAD);
        int[] wrong = {-1, 3, NONE, LEAST, MOST};
        for (int pipe : wrong) {
            Twins.refused("on " + pipe, Towns::busy, x -> x.dial(pipe, 1, 0), BAD);
        }
        TownClocks x = Towns.fullOfPipes();
        Due.due("on the last", x.dial(29, 1, 0), 0);
        Due.due("on the first", x.dial(0, 1, 0), 1);
        Due.due("the last's", x.state(0, 4), 29);
        Due.due("the first's", x.state(1, 4), 0);
    }

    @Says(promise = 5, words = "with a NEED 1 to 100")
    static void needIsFromOneToAHundred() {
        TownClocks x = new TownClocks();
        x.pipe(NONE, 0, 0);
        Due.due("1", x.dial(0, 1, 0), 0);
        Due.due("100", x.dial(0, 100, 0), 1);
        Due.due("1 is told", x.state(0, 5), 1);
        Due.due("100 is told", x.state(1, 5), 100);
        int[] wrong = {0, 101, -1, LEAST, MOST};
        for (int need : wrong) {
            Twins.refused("" + need, Towns::busy, y -> y.dial(0, need, 0), BAD);
        }
    }

    @Says(promise = 5, words = "A DIAL of a sort (0 DIAL, 1 BELL, 2 TOWER)")
    static void sortIsFromNoughtToTwo() {
        TownClocks x = Towns.ofSorts(0, 1, 2);
        for (int d = 0; d < 3; d++) {
            Due.due("kind of sort " + d, x.kind(d), d);
        }
        // 3 is a KIND, but no sort: none comes DARK.
        int[] wrong = {-1, 3, LEAST, MOST};
        for (int sort : wrong) {
            Twins.refused("" + sort, Towns::busy, y -> y.dial(0, 1, sort), BAD);
        }
    }

    @Says(promise = 5, words = "its number; it is right.")
    static void aNewDialIsRight() {
        TownClocks x = Towns.ofSorts(0);
        x.leak(0, 60);
        Due.puffs(x, 12);
        Due.due("its number", x.dial(0, 100, 1), 1);
        long[] want = {0, 0, 0, 0, 0, 100};
        for (int what = 0; what <= 5; what++) {
            Due.due("state " + what, x.state(1, what), want[what]);
        }
        Due.due("it is not dark", x.kind(1), 1);
        Due.due("it has no contract", x.owes(1), 0);
        Due.due("it is not of the set", x.mark(1, 0), 0);
        Due.due("a round does not go to it", x.round(10), 1);
    }
}
