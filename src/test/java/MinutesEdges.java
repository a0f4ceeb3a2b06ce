/** The edges of promises 6 to 15: puff, drift, sight, now, look, state, put, right, round, ahead. */
final class MinutesEdges {
    private static final int NONE = TownClocks.NONE, BAD = TownClocks.BAD, STATE = TownClocks.STATE,
        KIND = TownClocks.KIND;
    private static final int LEAST = Integer.MIN_VALUE, MOST = Integer.MAX_VALUE;
    private static final int[] NO_DIALS = {-1, 4, 40, NONE, LEAST, MOST};

    private MinutesEdges() {
    }

    private static void states(String when, TownClocks x, int dial, long... want) {
        for (int what = 0; what < want.length; what++) {
            Due.due(when + ", state(" + dial + ", " + what + ")", x.state(dial, what), want[what]);
        }
    }

    private static void nows(String when, TownClocks x, long... want) {
        for (int what = 0; what < want.length; what++) {
            Due.due(when + ", now(" + what + ")", x.now(what), want[what]);
        }
    }

    /** One dial of need 100, that has missed so many puffs; its pipe leaks still. */
    private static TownClocks missed(int puffs) {
        TownClocks x = Towns.ofDials(1);
        x.leak(0, 1);
        Due.puffs(x, puffs);
        return x;
    }

    // ---- 6

    @Says(promise = 6, words = "a puff moves it on by a minute, if the AIR of its PIPE is NEED or more; else it MISSES")
    static void justTheNeedIsEnough() {
        TownClocks x = new TownClocks();
        x.pipe(NONE, 50, 0);
        x.dial(0, 1, 0);
        x.dial(0, 49, 0);
        x.dial(0, 50, 0);
        x.dial(0, 51, 0);
        x.dial(0, 100, 0);
        Due.due("air 50", x.puff(), 2);
        long[] late = {0, 0, 0, 1, 1};
        for (int d = 0; d < 5; d++) {
            Due.due("late of " + d, x.state(d, 0), late[d]);
        }
        x.leak(0, 49);
        Due.due("air 1", x.puff(), 4);
        Due.due("need 1 at air 1", x.state(0, 0), 0);
        x.leak(0, 50);
        Due.due("air 0", x.puff(), 5);
        Due.due("need 1 at air 0", x.state(0, 0), 1);
    }

    @Says(promise = 6, words = "(THE HOUSE: 100)")
    static void theHouseIsEnoughForTheGreatestNeed() {
        TownClocks x = Towns.ofDials(1);
        Due.due("air 100, need 100", x.puff(), 0);
        x.leak(0, 1);
        Due.due("air 99, need 100", x.puff(), 1);
    }

    @Says(promise = 6, words = "A puff: how many DIALS MISS.")
    static void howManyMissFromNoneToAll() {
        Due.due("no dials", new TownClocks().puff(), 0);
        TownClocks x = Towns.ofDials(40);
        Due.due("none of forty", x.puff(), 0);
        x.leak(0, 1);
        Due.due("all of forty", x.puff(), 40);
        TownClocks y = Towns.fullOfDials();
        y.leak(0, 39);
        Due.due("all but the last of forty", y.puff(), 39);
    }

    @Says(promise = 6, words = "(The minute is one more.)")
    static void theMinuteIsOneMore() {
        TownClocks x = new TownClocks();
        Due.due("ahead of the first", x.now(0), 0);
        x.puff();
        Due.due("behind the first", x.now(0), 1);
        Due.puffs(x, 499);
        Due.due("behind 500", x.now(0), 500);
    }

    @Says(promise = 6, words = "STATE: 100000 were done.")
    static void theLastPuff() {
        TownClocks x = Towns.ofDials(1);
        Due.puffs(x, 99999);
        x.leak(0, 1);
        Due.due("the last", x.puff(), 1);
        Due.due("one more", x.puff(), STATE);
        Due.due("the minute", x.now(0), 100000);
        Twins.refused("one more", MinutesEdges::allPuffsDone, y -> y.puff(), STATE);
    }

    private static TownClocks allPuffsDone() {
        TownClocks x = Towns.busy();
        Due.puffs(x, 100000 - (int) x.now(0));
        return x;
    }

    // ---- 7, 8, 9

    @Says(promise = 7, words = "DRIFT (-5 to 5, 0 at first)")
    static void driftIsFromMinusFiveToFive() {
        TownClocks x = new TownClocks();
        Due.due("at first, set to -5", x.drift(-5), 0);
        x.puff();
        Due.due("off by -5", x.now(1), -5);
        Due.due("set to 5", x.drift(5), -5);
        Due.puffs(x, 2);
        Due.due("off by 5 twice more", x.now(1), 5);
        Due.due("what it was", x.drift(0), 5);
        int[] wrong = {-6, 6, LEAST, MOST};
        for (int v : wrong) {
            Twins.refused("" + v, Towns::busy, y -> y.drift(v), BAD);
        }
    }

    @Says(promise = 7, words = "the true time has gone on by 600 tenths of seconds and DRIFT")
    static void driftCountsAtEachPuffAlone() {
        TownClocks x = new TownClocks();
        x.puff();
        x.drift(5);
        Due.due("set behind the puff", x.now(1), 0);
        x.drift(-2);
        x.puff();
        Due.due("the one that is in force", x.now(1), -2);
        x.drift(0);
        x.puff();
        Due.due("0 adds nothing", x.now(1), -2);
    }

    @Says(promise = 7, words = "DRIFT: what it was. BAD.")
    static void driftTellsWhatItWas() {
        TownClocks x = new TownClocks();
        int was = 0;
        for (int v = -5; v <= 5; v++) {
            Due.due("drift(" + v + ")", x.drift(v), was);
            Due.due("the same again", x.drift(v), v);
            Due.due("refused", x.drift(v > 0 ? 6 : -6), BAD);
            was = v;
        }
        x.puff();
        x.sight();
        Due.due("a puff and a sighting leave it", x.drift(0), 5);
    }

    @Says(promise = {7, 9}, words = "OFF: true time less the MASTER's, in tenths.")
    static void offIsAboveNoughtWhereTheMasterLoses() {
        TownClocks x = new TownClocks();
        x.drift(4);
        Due.puffs(x, 3);
        Due.due("the true time has gone on by more", x.now(1), 12);
        x.drift(-5);
        Due.puffs(x, 4);
        Due.due("the true time has gone on by less", x.now(1), -8);
        Due.due("as it is found", x.sight(), -8);
    }

    @Says(promise = 8, words = "A SIGHTING: OFF as it was found.")
    static void aSightingFindsOff() {
        TownClocks x = new TownClocks();
        Due.due("at minute 0", x.sight(), 0);
        x.drift(5);
        Due.puffs(x, 400);
        Due.due("the master loses", x.sight(), 2000);
        x.drift(-5);
        Due.puffs(x, 2);
        Due.due("the master gains", x.sight(), -10);
        Due.due("how many", x.now(4), 3);
    }

    @Says(promise = 8, words = "the MASTER is put right (OFF is 0 then)")
    static void aSightingPutsTheMasterRight() {
        TownClocks x = new TownClocks();
        x.drift(3);
        Due.puffs(x, 2);
        x.sight();
        nows("at the sighting", x, 2, 0, 0, 0, 1);
        Due.due("at the same minute again", x.sight(), 0);
        nows("at the second", x, 2, 0, 0, 0, 2);
        x.puff();
        nows("the drift stays", x, 3, 3, -5, 5, 2);
    }

    @Says(promise = 9, words = "(ahead of the first: since minute 0)")
    static void theSpanAheadOfTheFirstSighting() {
        TownClocks x = new TownClocks();
        nows("at minute 0", x, 0, 0, 0, 0, 0);
        x.puff();
        nows("at minute 1", x, 1, 0, -5, 5, 0);
        Due.puffs(x, 99);
        nows("at minute 100", x, 100, 0, -500, 500, 0);
    }

    @Says(promise = 9, words = "from the least to the greatest of -5 and 5 times the minutes since the latest one")
    static void theSpanGoesByMinutesNotByDrift() {
        TownClocks x = new TownClocks();
        x.drift(5);
        Due.puffs(x, 3);
        nows("the upper end is reached", x, 3, 15, -15, 15, 0);
        x.sight();
        x.drift(-5);
        Due.puffs(x, 4);
        nows("the lower end is reached, since the latest", x, 7, -20, -20, 20, 1);
        x.sight();
        x.puff();
        nows("since the latest of two", x, 8, -5, -5, 5, 2);
    }

    @Says(promise = 9, words = "Of now: 0 the minute, 1 OFF, 2 the lower, 3 the upper end of its SPAN")
    static void eachOfNowIsItsOwn() {
        TownClocks x = new TownClocks();
        x.drift(2);
        Due.puffs(x, 3);
        for (int i = 0; i < 6; i++) {
            x.sight();
        }
        Due.puffs(x, 4);
        nows("seven minutes, four since the sixth sighting", x, 7, 8, -20, 20, 6);
    }

    @Says(promise = 9, words = "4 how many SIGHTINGS. BAD as a long.")
    static void nowIsFromNoughtToFour() {
        nows("busy", Towns.busy(), 14, -9, -15, 15, 1);
        int[] wrong = {-1, 5, LEAST, MOST};
        for (int what : wrong) {
            Twins.refused("now(" + what + ")", Towns::busy, x -> x.now(what), -1000001L);
        }
    }

    // ---- 10, 11

    @Says(promise = 10, words = "A DIAL is looked at: its LATE. BAD.")
    static void lookIsAtADialThatIsThere() {
        TownClocks x = Towns.fullOfDials();
        x.leak(0, 39);
        x.puff();
        Due.due("the first", x.look(0), 1);
        Due.due("the last", x.look(39), 0);
        x.put(39, 60);
        Due.due("ahead of the time", x.look(39), -60);
        Twins.refused("none is there", TownClocks::new, y -> y.look(0), BAD);
        for (int dial : NO_DIALS) {
            Twins.refused("look(" + dial + ")", Towns::busy, y -> y.look(dial), BAD);
        }
    }

    @Says(promise = {10, 11}, words = "LOOKS: at a minute a DIAL is looked at: its LATE is known then.")
    static void aLookMakesLateKnown() {
        TownClocks x = missed(3);
        states("ahead of it", x, 0, 3, 0, 3, 3);
        x.look(0);
        states("at it", x, 0, 3, 3, 3, 3);
        x.look(0);
        states("at a second", x, 0, 3, 3, 3, 3);
        x.leak(0, 0);
        x.puff();
        states("one moved on behind it", x, 0, 3, 3, 4, 0);
        x.leak(0, 1);
        x.puff();
        states("one missed behind it", x, 0, 4, 3, 5, 1);
    }

    @Says(promise = 11, words = "from LATE at the latest LOOK (0, when it came or was put right) to that and all puffs since")
    static void theKnownSpanBeginsAtNought() {
        TownClocks x = missed(2);
        x.dial(0, 100, 0);
        states("when it came", x, 1, 0, 0, 0, 0);
        x.puff();
        states("a puff behind it came", x, 1, 1, 0, 1, 1);
        states("one that came earlier", x, 0, 3, 0, 3, 3);
        x.right(0);
        states("when it was put right", x, 0, 0, 0, 0, 0);
        x.leak(0, 0);
        x.puff();
        states("a puff behind it was put right", x, 0, 0, 0, 1, 0);
        states("one that was not", x, 1, 1, 0, 2, 0);
    }

    @Says(promise = {11, 12}, words = "(what it was put on by hand is taken off both)")
    static void bothEndsAreTakenOff() {
        TownClocks x = missed(2);
        x.put(0, 60);
        states("on by 60", x, 0, -58, -60, -58, 2);
        x.put(0, -60);
        states("back by 60", x, 0, 2, 0, 2, 2);
        x.put(0, 1);
        x.look(0);
        states("a look behind it: known as it is", x, 0, 1, 1, 1, 2);
        x.put(0, 3);
        x.puff();
        states("on by 3 and a puff behind the look", x, 0, -1, -2, -1, 3);
    }

    @Says(promise = 11, words = "Of a DIAL: 0 LATE, 1, 2 the ends of its KNOWN span")
    static void theLowerEndIsAheadOfTheUpperOne() {
        TownClocks x = missed(6);
        x.look(0);
        x.leak(0, 0);
        x.puff();
        x.leak(0, 1);
        Due.puffs(x, 2);
        states("six at the look, two of three since", x, 0, 8, 6, 9, 2, 0, 100);
    }

    @Says(promise = 11, words = "3 how many puffs running it has missed now")
    static void missedRunning() {
        TownClocks x = missed(0);
        Due.due("none", x.state(0, 3), 0);
        x.puff();
        Due.due("one", x.state(0, 3), 1);
        x.look(0);
        x.put(0, 1);
        Due.due("a look and a hand change nothing", x.state(0, 3), 1);
        x.puff();
        Due.due("two", x.state(0, 3), 2);
        x.leak(0, 0);
        x.puff();
        Due.due("moved on", x.state(0, 3), 0);
        x.leak(0, 1);
        x.puff();
        Due.due("one again", x.state(0, 3), 1);
        x.right(0);
        Due.due("put right", x.state(0, 3), 0);
    }

    @Says(promise = 11, words = "4 its PIPE, 5 NEED. BAD.")
    static void stateIsFromNoughtToFive() {
        TownClocks x = Towns.busy();
        states("the first", x, 0, 3, 2, 3, 3, 0, 85);
        states("the last", x, 3, 14, 0, 14, 14, 2, 96);
        int[] wrong = {-1, 6, LEAST, MOST};
        for (int what : wrong) {
            Twins.refused("state(0, " + what + ")", Towns::busy, y -> y.state(0, what), BAD);
        }
        for (int dial : NO_DIALS) {
            Twins.refused("state(" + dial + ", 0)", Towns::busy, y -> y.state(dial, 0), BAD);
        }
        Twins.refused("none is there", TownClocks::new, y -> y.state(0, 0), BAD);
    }

    // ---- 12, 13

    @Says(promise = 12, words = "A DIAL is put on by m minutes by hand (-60 to 60, not 0): its LATE then. BAD.")
    static void putIsBySixtyAtMostAndNotByNought() {
        TownClocks x = Towns.ofDials(2);
        Due.due("60", x.put(0, 60), -60);
        Due.due("-60", x.put(0, -60), 0);
        Due.due("-60 again", x.put(0, -60), 60);
        Due.due("1", x.put(1, 1), -1);
        Due.due("-1", x.put(1, -1), 0);
        int[] wrong = {0, -61, 61, LEAST, MOST};
        for (int m : wrong) {
            Twins.refused("put(0, " + m + ")", Towns::busy, y -> y.put(0, m), BAD);
        }
        for (int dial : NO_DIALS) {
            Twins.refused("put(" + dial + ", 1)", Towns::busy, y -> y.put(dial, 1), BAD);
        }
        Twins.refused("none is there", TownClocks::new, y -> y.put(0, 1), BAD);
    }

    @Says(promise = {11, 12, 13},
        words = "how many puffs it MISSED since it was put right last, less those that it was put on by hand.")
    static void lateBeginsAnewWhenPutRight() {
        TownClocks x = missed(5);
        x.put(0, 2);
        Due.due("five less two", x.state(0, 0), 3);
        Due.due("put right", x.right(0), 3);
        Due.due("the hand's minutes do not count further", x.state(0, 0), 0);
        x.puff();
        Due.due("one since", x.state(0, 0), 1);
        x.put(0, 4);
        Due.due("below nought", x.state(0, 0), -3);
    }

    @Says(promise = 13, words = "A DIAL is put right (LATE 0, known; puffs missed running: 0): what LATE was. BAD.")
    static void rightMakesAllNought() {
        TownClocks x = missed(3);
        Due.due("late", x.right(0), 3);
        states("right", x, 0, 0, 0, 0, 0);
        Due.due("right already", x.right(0), 0);
        x.put(0, 7);
        Due.due("ahead of the time", x.right(0), -7);
        states("right again", x, 0, 0, 0, 0, 0);
        x.put(0, 1);
        x.puff();
        Due.due("by chance 0, but not known", x.state(0, 1), -1);
        Due.due("late 0", x.right(0), 0);
        states("known", x, 0, 0, 0, 0, 0);
        for (int dial : NO_DIALS) {
            Twins.refused("right(" + dial + ")", Towns::busy, y -> y.right(dial), BAD);
        }
        Twins.refused("none is there", TownClocks::new, y -> y.right(0), BAD);
    }

    @Says(promise = {13, 23}, words = "puffs missed running: 0")
    static void aDarkOnePutRightIsDarkAgainBehindTenMore() {
        TownClocks x = missed(10);
        Due.due("dark", x.kind(0), 3);
        x.right(0);
        Due.due("put right", x.kind(0), 0);
        Due.puffs(x, 9);
        Due.due("nine more", x.kind(0), 0);
        x.puff();
        Due.due("ten more", x.kind(0), 3);
    }

    // ---- 14

    @Says(promise = 14, words = "a hand puts right so many DIALS (k, 1 to 10)")
    static void aRoundIsOfOneToTen() {
        TownClocks x = Towns.ofDials(12);
        x.leak(0, 1);
        x.puff();
        Due.due("1", x.round(1), 1);
        Due.due("eleven are left", x.count(6), 11);
        Due.due("10", x.round(10), 10);
        Due.due("one is left", x.count(6), 1);
        Due.due("10 of one", x.round(10), 1);
        Due.due("10 of none", x.round(10), 0);
        int[] wrong = {0, 11, -1, LEAST, MOST};
        for (int k : wrong) {
            Twins.refused("round(" + k + ")", Towns::busy, y -> y.round(k), BAD);
        }
        Due.due("no dials", new TownClocks().round(1), 0);
        Twins.refused("no dials, 0", TownClocks::new, y -> y.round(0), BAD);
    }

    @Says(promise = 14, words = "those with most LATE (without sign), of several the least numbers")
    static void aRoundGoesByLateWithoutSignThenByNumber() {
        TownClocks x = Towns.ofDials(5);
        x.put(0, -2);
        x.put(1, 3);
        x.put(2, -3);
        x.put(3, 3);
        x.put(4, 1);
        int[] order = {1, 2, 3, 0, 4};
        for (int i = 0; i < 5; i++) {
            Due.due("one more", x.round(1), 1);
            for (int j = 0; j < 5; j++) {
                Due.holds("dial " + order[j] + " behind " + (i + 1), (x.state(order[j], 0) == 0) == (j <= i));
            }
        }
    }

    @Says(promise = 14, words = "those with LATE 0 are not gone to.")
    static void aRoundDoesNotGoToThoseWithNought() {
        TownClocks x = missed(10);
        x.put(0, 10);
        x.dial(0, 100, 0);
        x.puff();
        x.put(0, 1);
        Due.due("one of two", x.round(2), 1);
        states("gone to", x, 1, 0, 0, 0, 0);
        states("not gone to: it is not known, and dark still", x, 0, 0, -11, 0, 11);
        Due.due("it is dark", x.kind(0), 3);
        Due.due("none", x.round(2), 0);
    }

    @Says(promise = 14, words = "A ROUND of k: how many DIALS were put right. BAD.")
    static void aRoundPutsRightAsRightDoes() {
        TownClocks x = missed(11);
        x.put(0, 2);
        Due.due("one", x.round(1), 1);
        states("right", x, 0, 0, 0, 0, 0);
        Due.due("no longer dark", x.kind(0), 0);
    }

    // ---- 15

    @Says(promise = 15, words = "A BELL that is to strike at the true minute is set ahead by as many tenths as its PIPE's LAG in all")
    static void aheadIsByTheLagOfItsOwnWay() {
        TownClocks x = new TownClocks();
        x.pipe(NONE, 50, 20);
        x.pipe(NONE, 50, 10);
        x.pipe(0, 50, 20);
        x.pipe(2, 50, 0);
        x.dial(3, 100, 1);
        x.dial(1, 1, 2);
        Due.due("three pipes", x.ahead(0), 40);
        Due.due("one pipe", x.ahead(1), 10);
        x.leak(2, 60);
        x.drift(5);
        Due.puffs(x, 9);
        x.put(0, 60);
        Due.due("leaks, misses, drift and hands change nothing", x.ahead(0), 40);
    }

    @Says(promise = 15, words = "rounded up to whole seconds: 10 tenths each.")
    static void aheadIsRoundedUp() {
        int[] lags = {0, 1, 9, 10, 11, 19, 20};
        int[] want = {0, 10, 10, 10, 20, 20, 20};
        for (int i = 0; i < lags.length; i++) {
            TownClocks x = new TownClocks();
            x.pipe(NONE, 0, lags[i]);
            x.dial(0, 1, 1);
            Due.due("lag " + lags[i], x.ahead(0), want[i]);
        }
        TownClocks y = Towns.fullOfPipes();
        y.dial(29, 1, 1);
        Due.due("the longest way", y.ahead(0), 600);
        TownClocks z = new TownClocks();
        z.pipe(NONE, 0, 5);
        z.pipe(0, 0, 6);
        z.dial(1, 1, 1);
        Due.due("the lags are added first: 11", z.ahead(0), 20);
    }

    @Says(promise = 15, words = "KIND: it is no BELL, as it is told.")
    static void aheadIsOfBellsAsTheyAreTold() {
        TownClocks x = Towns.ofSorts(0, 1, 2);
        Due.due("a dial", x.ahead(0), KIND);
        Due.due("a bell", x.ahead(1), 0);
        Due.due("a tower", x.ahead(2), 0);
        x.leak(0, 1);
        Due.puffs(x, 9);
        Due.due("a bell behind nine", x.ahead(1), 0);
        Due.due("a tower behind nine", x.ahead(2), 0);
        x.puff();
        Due.due("a dark bell", x.ahead(1), KIND);
        Due.due("a dark tower", x.ahead(2), KIND);
        x.leak(0, 0);
        x.puff();
        Due.due("moved on", x.ahead(1), 0);
        Twins.refused("a dial", Towns::busy, y -> y.ahead(2), KIND);
        Twins.refused("a dark bell", Towns::busy, y -> y.ahead(3), KIND);
    }

    @Says(promise = 15, words = "By how many tenths a BELL is set ahead. BAD")
    static void aheadIsOfADialThatIsThere() {
        Due.due("the first", Towns.busy().ahead(0), 10);
        Due.due("the second", Towns.busy().ahead(1), 20);
        for (int dial : NO_DIALS) {
            Twins.refused("ahead(" + dial + ")", Towns::busy, x -> x.ahead(dial), BAD);
        }
        Twins.refused("none is there", TownClocks::new, x -> x.ahead(0), BAD);
    }
}
