/** The edges of promises 23 to 27: kind, as, ask, trace, count. */
final class AskedEdges {
    private static final int NONE = TownClocks.NONE, BAD = TownClocks.BAD, KIND = TownClocks.KIND;
    private static final int LEAST = Integer.MIN_VALUE, MOST = Integer.MAX_VALUE;
    private static final int[] NO_DIALS = {-1, 4, 40, NONE, LEAST, MOST};

    private AskedEdges() {
    }

    /** A dial, a bell and a tower, that have missed so many puffs; their pipe leaks still. */
    private static TownClocks missed(int puffs) {
        TownClocks x = Towns.ofSorts(0, 1, 2);
        x.leak(0, 1);
        Due.puffs(x, puffs);
        return x;
    }

    private static void kinds(String when, TownClocks x, int... want) {
        for (int d = 0; d < want.length; d++) {
            Due.due(when + ", kind(" + d + ")", x.kind(d), want[d]);
        }
    }

    /** An ask, and all of the trace that it leaves. */
    private static void asked(TownClocks x, int dial, int what, long answer, int... trace) {
        String call = "ask(" + dial + ", " + what + ")";
        Due.due(call, x.ask(dial, what), answer);
        for (int i = 0; i <= 16; i++) {
            Due.due("trace(" + i + ") of " + call, x.trace(i), i < trace.length ? trace[i] : NONE);
        }
    }

    private static void counts(String when, TownClocks x, int... want) {
        for (int what = 0; what < want.length; what++) {
            Due.due(when + ", count(" + what + ")", x.count(what), want[what]);
        }
    }

    // ---- 23

    @Says(promise = 23, words = "3 DARK, a DIAL that has missed the latest 10 puffs or more")
    static void darkIsFromTenOn() {
        TownClocks x = missed(9);
        kinds("nine", x, 0, 1, 2);
        x.puff();
        kinds("ten", x, 3, 3, 3);
        x.puff();
        kinds("eleven", x, 3, 3, 3);
        x.leak(0, 0);
        x.puff();
        kinds("the latest was not missed", x, 0, 1, 2);
        x.leak(0, 1);
        Due.puffs(x, 9);
        kinds("nine again", x, 0, 1, 2);
        x.puff();
        kinds("ten again", x, 3, 3, 3);
    }

    @Says(promise = 23, words = "3 DARK, a DIAL that has missed the latest 10 puffs or more")
    static void darkGoesByPuffsMissedNotByLate() {
        TownClocks x = missed(9);
        x.put(0, -60);
        Due.due("late by 69, nine missed", x.kind(0), 0);
        x.puff();
        x.put(1, 10);
        Due.due("late by 0, ten missed", x.kind(1), 3);
        x.dial(0, 100, 1);
        Due.due("one that came behind ten", x.kind(3), 1);
        Due.puffs(x, 9);
        Due.due("nine behind it came", x.kind(3), 1);
        x.puff();
        Due.due("ten behind it came", x.kind(3), 3);
    }

    @Says(promise = 23, words = "(be it a BELL or not: it is told as this first)")
    static void aDarkBellIsToldAsDark() {
        TownClocks x = missed(10);
        kinds("dark", x, 3, 3, 3);
        x.right(1);
        kinds("the bell is put right", x, 3, 1, 3);
        x.round(1);
        kinds("a round goes to the dial", x, 0, 1, 3);
    }

    @Says(promise = 23, words = "The KIND of a DIAL, as it is told. BAD.")
    static void kindIsOfADialThatIsThere() {
        kinds("busy", Towns.busy(), 1, 2, 0, 3);
        Due.due("the last of forty", Towns.fullOfDials().kind(39), 0);
        for (int dial : NO_DIALS) {
            Twins.refused("kind(" + dial + ")", Towns::busy, x -> x.kind(dial), BAD);
        }
        Twins.refused("none is there", TownClocks::new, x -> x.kind(0), BAD);
    }

    // ---- 24

    @Says(promise = 24, words = "A DIAL is taken as one of a KIND (0 .. 3): its LATE. BAD")
    static void asIsOfKindsFromNoughtToThree() {
        TownClocks x = Towns.busy();
        Due.due("0", x.as(0, 0), 3);
        Due.due("1", x.as(0, 1), 3);
        Due.due("2", x.as(1, 2), 3);
        Due.due("3", x.as(3, 3), 14);
        Due.due("ahead of the time", x.as(2, 0), -3);
        int[] wrong = {-1, 4, LEAST, MOST};
        for (int kind : wrong) {
            Twins.refused("as(0, " + kind + ")", Towns::busy, y -> y.as(0, kind), BAD);
        }
        for (int dial : NO_DIALS) {
            Twins.refused("as(" + dial + ", 0)", Towns::busy, y -> y.as(dial, 0), BAD);
            Twins.refused("BAD ahead of KIND, as(" + dial + ", 3)", Towns::busy, y -> y.as(dial, 3), BAD);
        }
        Twins.refused("none is there", TownClocks::new, y -> y.as(0, 0), BAD);
    }

    @Says(promise = 24, words = "KIND: as it is told, it is no such one.")
    static void asIsOfWhatItIsTold() {
        int[][] is = {{0}, {0, 1}, {0, 1, 2}, {0, 3}};
        ases("told by its sort", missed(9), 9, is[0], is[1], is[2]);
        ases("dark", missed(10), 10, is[3], is[3], is[3]);
        Twins.refused("a dial as a bell", Towns::busy, x -> x.as(2, 1), KIND);
        Twins.refused("a dark bell as a bell", Towns::busy, x -> x.as(3, 1), KIND);
    }

    private static void ases(String when, TownClocks x, int late, int[]... kinds) {
        for (int d = 0; d < kinds.length; d++) {
            for (int kind = 0; kind <= 3; kind++) {
                boolean is = false;
                for (int k : kinds[d]) {
                    is |= k == kind;
                }
                Due.due(when + ", as(" + d + ", " + kind + ")", x.as(d, kind), is ? late : KIND);
            }
        }
    }

    @Says(promise = {15, 24, 27}, words = "1 BELL, a DIAL that strikes; 2 TOWER, a BELL with two faces")
    static void aBellIsADialAndATowerIsABell() {
        TownClocks x = missed(9);
        Due.due("a bell is a dial", x.as(1, 0), 9);
        Due.due("a tower is a dial", x.as(2, 0), 9);
        Due.due("a tower is a bell", x.as(2, 1), 9);
        Due.due("a bell is no tower", x.as(1, 2), KIND);
        Due.due("a dial is no bell", x.as(0, 1), KIND);
        Due.due("a tower is set ahead", x.ahead(2), 0);
        Due.due("three dials", x.count(1), 3);
        Due.due("two bells", x.count(2), 2);
    }

    // ---- 25, 26

    @Says(promise = 25, words = "0 WEIGHT: 10 lent to all DIALS: LATE. 11 of BELLS: what 10 gives, and 10.")
    static void weightOfDialsAndBells() {
        TownClocks x = missed(9);
        asked(x, 0, 0, 9, 10);
        asked(x, 1, 0, 19, 11, 10);
        x.put(0, 60);
        x.put(1, 60);
        asked(x, 0, 0, -51, 10);
        asked(x, 1, 0, -41, 11, 10);
    }

    @Says(promise = {25, 26}, words = "12 of TOWERS: twice what 11 gives (asked once).")
    static void weightOfTowers() {
        TownClocks x = missed(9);
        asked(x, 2, 0, 38, 12, 11, 10);
        x.put(2, 19);
        asked(x, 2, 0, 0, 12, 11, 10);
        x.put(2, 1);
        asked(x, 2, 0, -2, 12, 11, 10);
    }

    @Says(promise = 25, words = "13 of DARK ones: 0 less what 10 gives.")
    static void weightOfDarkOnes() {
        TownClocks x = missed(10);
        for (int d = 0; d < 3; d++) {
            asked(x, d, 0, -10, 13, 10);
        }
        x.put(0, 20);
        asked(x, 0, 0, 10, 13, 10);
        x.put(1, 10);
        asked(x, 1, 0, 0, 13, 10);
    }

    @Says(promise = {25, 26}, words = "1 MARK: 20 lent to all DIALS: NEED. 21 of BELLS: what 20 gives, and WEIGHT.")
    static void markOfDialsAndBells() {
        TownClocks x = missed(9);
        asked(x, 0, 1, 100, 20);
        asked(x, 1, 1, 119, 21, 20, 11, 10);
    }

    @Says(promise = {25, 26}, words = "Of an ask the BODY told for the KIND begins, else that of the nearest KIND that it is, too")
    static void theBodyThatBegins() {
        int[][] bright = {{10, 20}, {11, 21}, {12, 21}};
        begun("by its sort", missed(9), bright);
        int[][] dark = {{13, 22}, {13, 22}, {13, 22}};
        begun("dark", missed(10), dark);
    }

    private static void begun(String when, TownClocks x, int[][] want) {
        for (int d = 0; d < want.length; d++) {
            for (int what = 0; what <= 1; what++) {
                x.ask(d, what);
                Due.due(when + ", the first body of ask(" + d + ", " + what + ")", x.trace(0), want[d][what]);
            }
        }
    }

    @Says(promise = 25, words = "It is asked as what it is told.")
    static void anAskGoesByTheKindOfNow() {
        TownClocks x = missed(9);
        asked(x, 2, 0, 38, 12, 11, 10);
        x.puff();
        asked(x, 2, 0, -10, 13, 10);
        asked(x, 2, 1, 1100, 22, 20);
        x.leak(0, 0);
        x.puff();
        asked(x, 2, 0, 40, 12, 11, 10);
        asked(x, 2, 1, 140, 21, 20, 12, 11, 10);
    }

    @Says(promise = {25, 26}, words = "WEIGHT within another one is asked of the same DIAL anew")
    static void markOfATowerAsksForItsOwnWeight() {
        TownClocks x = missed(9);
        asked(x, 2, 1, 138, 21, 20, 12, 11, 10);
    }

    @Says(promise = 25, words = "22 of DARK ones: what 20 gives, and 1000.")
    static void markOfDarkOnes() {
        TownClocks x = missed(10);
        for (int d = 0; d < 3; d++) {
            asked(x, d, 1, 1100, 22, 20);
        }
    }

    @Says(promise = 25, words = "An ASK (0, 1) of a DIAL. BAD.")
    static void askIsNoughtOrOne() {
        int[] wrong = {-1, 2, LEAST, MOST};
        for (int what : wrong) {
            Twins.refused("ask(0, " + what + ")", Towns::busy, x -> x.ask(0, what), BAD);
        }
        for (int dial : NO_DIALS) {
            Twins.refused("ask(" + dial + ", 0)", Towns::busy, x -> x.ask(dial, 0), BAD);
        }
        Twins.refused("none is there", TownClocks::new, x -> x.ask(0, 0), BAD);
        asked(Towns.fullOfDials(), 39, 1, 61, 20);
    }

    @Says(promise = {25, 26}, words = "THE TRACE is empty ahead of it (where that is refused it stays).")
    static void theTraceIsEmptyAheadOfAnAsk() {
        TownClocks x = missed(9);
        asked(x, 2, 1, 138, 21, 20, 12, 11, 10);
        asked(x, 0, 0, 9, 10);
        x.ask(1, 1);
        Due.due("a dial that is not there", x.ask(3, 0), BAD);
        Due.due("what is not asked", x.ask(1, 2), BAD);
        int[] stays = {21, 20, 11, 10, NONE};
        for (int i = 0; i < stays.length; i++) {
            Due.due("it stays, trace(" + i + ")", x.trace(i), stays[i]);
        }
        x.puff();
        x.as(0, 0);
        x.kind(0);
        Due.due("other calls leave it", x.trace(0), 21);
    }

    @Says(promise = 26, words = "Number i of THE TRACE; NONE.")
    static void traceIsOfWhatItHas() {
        int[] none = {0, 1, -1, 15, 16, LEAST, MOST};
        for (int i : none) {
            Twins.refused("empty, trace(" + i + ")", TownClocks::new, x -> x.trace(i), NONE);
        }
        Due.due("the last of five", Towns.busy().trace(4), 10);
        int[] noneOfFive = {-1, 5, 15, 16, 17, LEAST, MOST};
        for (int i : noneOfFive) {
            Twins.refused("of five, trace(" + i + ")", Towns::busy, x -> x.trace(i), NONE);
        }
    }

    @Says(promise = 26, words = "leaves its number in THE TRACE as it begins (the first 16)")
    static void theLongestTrace() {
        TownClocks x = missed(0);
        for (int i = 0; i < 20; i++) {
            asked(x, 2, 1, 120, 21, 20, 12, 11, 10);
        }
    }

    // ---- 27

    @Says(promise = 27, words = "How many: 0 PIPES, 1 DIALS")
    static void countsOfNothingAndOfAll() {
        counts("nothing", new TownClocks(), 0, 0, 0, 0, 0, 0, 0, 0);
        counts("full of pipes", Towns.fullOfPipes(), 30, 0, 0, 0, 0, 0, 0, 0);
        counts("full of dials", Towns.fullOfDials(), 1, 40, 26, 0, 0, 0, 0, 0);
        counts("busy", Towns.busy(), 3, 4, 2, 1, 3, 3, 3 + 3 + 3 + 14, 14);
    }

    @Says(promise = 27, words = "2 BELLS (TOWERS, too; as they are told), 3 DARK ones")
    static void bellsAreCountedAsTheyAreTold() {
        TownClocks x = missed(9);
        counts("nine", x, 1, 3, 2, 0);
        x.puff();
        counts("ten", x, 1, 3, 0, 3);
        x.right(2);
        counts("the tower is put right", x, 1, 3, 1, 2);
        x.right(0);
        counts("the dial is put right", x, 1, 3, 1, 1);
    }

    @Says(promise = 27, words = "4 that MISSED at the latest puff")
    static void thoseThatMissedAtTheLatestPuff() {
        TownClocks x = missed(0);
        Due.due("ahead of the first", x.count(4), 0);
        x.puff();
        Due.due("all", x.count(4), 3);
        x.right(0);
        x.put(1, 1);
        x.round(10);
        x.leak(0, 0);
        x.dial(0, 100, 0);
        Due.due("what comes behind it changes nothing", x.count(4), 3);
        x.puff();
        Due.due("none", x.count(4), 0);
    }

    @Says(promise = 27, words = "5 contracts")
    static void contractsInForce() {
        TownClocks x = Towns.ofDials(40);
        for (int d = 0; d < 40; d++) {
            Due.readText(x, "dial " + d + " flat 0;dial " + d + " right 0;");
            Due.due("up to dial " + d, x.count(5), d + 1);
        }
        Due.readText(x, "dial 40 flat 1;");
        Due.due("behind a fault", x.count(5), 40);
    }

    @Says(promise = 27, words = "6 all LATES without sign, added")
    static void latesWithoutSign() {
        TownClocks x = Towns.ofDials(40);
        Due.due("none", x.count(6), 0);
        for (int d = 0; d < 40; d++) {
            x.put(d, d % 2 == 0 ? 60 : -60);
        }
        Due.due("forty times sixty", x.count(6), 2400);
        x.leak(0, 1);
        x.puff();
        Due.due("half of them one less, half one more", x.count(6), 2400);
        x.right(0);
        Due.due("one less", x.count(6), 2341);
    }

    @Says(promise = 27, words = "7 bytes on the tape. BAD.")
    static void countIsFromNoughtToSeven() {
        TownClocks x = new TownClocks();
        Due.due("none", x.count(7), 0);
        x.feed(' ', 1);
        Due.due("one", x.count(7), 1);
        x.contracts();
        Due.due("read", x.count(7), 0);
        int[] wrong = {-1, 8, LEAST, MOST};
        for (int what : wrong) {
            Twins.refused("count(" + what + ")", Towns::busy, y -> y.count(what), BAD);
        }
    }
}
