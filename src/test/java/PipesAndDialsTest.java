/** Promises 1 to 5: a new object, pipe, leak, told, dial. */
public final class PipesAndDialsTest {
    private static final int NONE = TownClocks.NONE, BAD = TownClocks.BAD, FULL = TownClocks.FULL;

    public static void main(String[] args) {
        promise1NewObject();
        promise2Pipe();
        promise2PipesAreAtMostThirty();
        promise3Leak();
        promise4Told();
        promise4AirIsNeverBelowNought();
        promise5Dial();
        promise5DialsAreAtMostForty();
        Due.end();
    }

    private static void promise1NewObject() {
        TownClocks x = new TownClocks();
        for (int what = 0; what <= 7; what++) {
            Due.due("1: count(" + what + ")", x.count(what), 0);
        }
        for (int what = 0; what <= 4; what++) {
            Due.due("1: now(" + what + ")", x.now(what), 0);
        }
        Due.due("1: drift", x.drift(0), 0);
        Due.due("1: fault", x.fault(), 0);
        Due.due("1: trace", x.trace(0), NONE);
        x.pipe(NONE, 0, 0);
        Due.due("1: objects share nothing", new TownClocks().count(0), 0);
    }

    private static void promise2Pipe() {
        TownClocks x = new TownClocks();
        int[] wrongParents = {0, 1, -1, -999999, -1000001, Integer.MIN_VALUE, Integer.MAX_VALUE};
        for (int parent : wrongParents) {
            Due.due("2: pipe behind " + parent, x.pipe(parent, 0, 0), BAD);
        }
        int[][] wrong = {{-1, 0}, {51, 0}, {0, -1}, {0, 21}, {Integer.MIN_VALUE, 0}, {0, Integer.MAX_VALUE}};
        for (int[] w : wrong) {
            Due.due("2: pipe of " + w[0] + ", " + w[1], x.pipe(NONE, w[0], w[1]), BAD);
        }
        Due.due("2: nothing came", x.count(0), 0);
        Due.due("2: first", x.pipe(NONE, 50, 20), 0);
        Due.due("2: behind it", x.pipe(0, 0, 0), 1);
        Due.due("2: behind the house again", x.pipe(NONE, 0, 0), 2);
        Due.due("2: behind itself", x.pipe(3, 0, 0), BAD);
        Due.due("2: how many", x.count(0), 3);
        Due.due("2: the house's air", x.told(2, 0), 100);
    }

    private static void promise2PipesAreAtMostThirty() {
        TownClocks x = new TownClocks();
        for (int i = 0; i < 30; i++) {
            Due.due("2: pipe " + i, x.pipe(i == 0 ? NONE : i - 1, 0, 20), i);
        }
        Due.due("2: one more", x.pipe(0, 0, 0), FULL);
        Due.due("2: one more behind the house", x.pipe(NONE, 0, 0), FULL);
        Due.due("2: BAD is told ahead of FULL (parent)", x.pipe(30, 0, 0), BAD);
        Due.due("2: BAD is told ahead of FULL (loss)", x.pipe(0, 51, 0), BAD);
        Due.due("2: BAD is told ahead of FULL (lag)", x.pipe(0, 0, 21), BAD);
        Due.due("2: how many", x.count(0), 30);
        Due.due("2: the longest lag", x.told(29, 1), 600);
    }

    private static void promise3Leak() {
        TownClocks x = new TownClocks();
        Due.due("3: no pipe", x.leak(0, 0), BAD);
        x.pipe(NONE, 0, 0);
        Due.due("3: at first", x.leak(0, 60), 0);
        Due.due("3: above", x.leak(0, 61), BAD);
        Due.due("3: below", x.leak(0, -1), BAD);
        Due.due("3: pipe below", x.leak(-1, 0), BAD);
        Due.due("3: the house", x.leak(NONE, 0), BAD);
        Due.due("3: pipe above", x.leak(1, 0), BAD);
        Due.due("3: stays where refused", x.leak(0, 7), 60);
        Due.due("3: told", x.told(0, 2), 7);
        Due.due("3: none again", x.leak(0, 0), 7);
        Due.due("3: told none", x.told(0, 2), 0);
    }

    private static void promise4Told() {
        TownClocks x = new TownClocks();
        Due.due("4: no pipe", x.told(0, 0), BAD);
        x.pipe(NONE, 10, 3);
        x.pipe(0, 20, 4);
        x.pipe(1, 5, 20);
        x.pipe(0, 1, 1);
        x.leak(1, 6);
        long[][] want = {{90, 3, 0}, {64, 7, 6}, {59, 27, 0}, {89, 4, 0}};
        for (int p = 0; p < 4; p++) {
            for (int what = 0; what < 3; what++) {
                Due.due("4: told(" + p + ", " + what + ")", x.told(p, what), want[p][what]);
            }
            Due.due("4: what above", x.told(p, 3), BAD);
            Due.due("4: what below", x.told(p, -1), BAD);
        }
        Due.due("4: pipe above", x.told(4, 0), BAD);
        Due.due("4: pipe below", x.told(-1, 0), BAD);
        Due.due("4: the house", x.told(NONE, 0), BAD);
        x.leak(0, 60);
        Due.due("4: a leak ahead", x.told(2, 0), 0);
        Due.due("4: a leak ahead, another way", x.told(3, 0), 29);
    }

    private static void promise4AirIsNeverBelowNought() {
        TownClocks x = new TownClocks();
        x.pipe(NONE, 50, 0);
        x.pipe(0, 50, 0);
        x.pipe(1, 50, 0);
        Due.due("4: just nought", x.told(1, 0), 0);
        Due.due("4: below nought", x.told(2, 0), 0);
        x.leak(0, 60);
        Due.due("4: below nought by a leak", x.told(0, 0), 0);
    }

    private static void promise5Dial() {
        TownClocks x = new TownClocks();
        Due.due("5: no pipe", x.dial(0, 1, 0), BAD);
        x.pipe(NONE, 0, 0);
        int[][] wrong = {{1, 1, 0}, {-1, 1, 0}, {NONE, 1, 0}, {0, 0, 0}, {0, 101, 0}, {0, -1, 0}, {0, 1, -1}, {0, 1, 3}};
        for (int[] w : wrong) {
            Due.due("5: dial(" + w[0] + ", " + w[1] + ", " + w[2] + ")", x.dial(w[0], w[1], w[2]), BAD);
        }
        Due.due("5: nothing came", x.count(1), 0);
        Due.due("5: a dial", x.dial(0, 1, 0), 0);
        Due.due("5: a bell", x.dial(0, 100, 1), 1);
        Due.due("5: a tower", x.dial(0, 50, 2), 2);
        for (int d = 0; d < 3; d++) {
            Due.due("5: kind of " + d, x.kind(d), d);
        }
        x.leak(0, 60);
        Due.puffs(x, 3);
        Due.due("5: a later one", x.dial(0, 100, 0), 3);
        long[] want = {0, 0, 0, 0, 0, 100};
        for (int what = 0; what <= 5; what++) {
            Due.due("5: a later one is right, state " + what, x.state(3, what), want[what]);
        }
    }

    private static void promise5DialsAreAtMostForty() {
        TownClocks x = new TownClocks();
        x.pipe(NONE, 0, 0);
        for (int i = 0; i < 40; i++) {
            Due.due("5: dial " + i, x.dial(0, 100, 0), i);
        }
        Due.due("5: one more", x.dial(0, 100, 0), FULL);
        Due.due("5: BAD is told ahead of FULL (pipe)", x.dial(1, 100, 0), BAD);
        Due.due("5: BAD is told ahead of FULL (need)", x.dial(0, 101, 0), BAD);
        Due.due("5: BAD is told ahead of FULL (sort)", x.dial(0, 100, 3), BAD);
        Due.due("5: how many", x.count(1), 40);
    }
}
