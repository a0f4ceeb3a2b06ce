/** Promises 6 to 15: puff, drift, sight, now, look, state, put, right, round, ahead. */
public final class MinutesTest {
    private static final int NONE = TownClocks.NONE, BAD = TownClocks.BAD, STATE = TownClocks.STATE,
        KIND = TownClocks.KIND;

    public static void main(String[] args) {
        promise6Puff();
        promise6PuffsHaveAnEnd();
        promise7Drift();
        promise8Sight();
        promise9Now();
        promise10Look();
        promise11State();
        promise12Put();
        promise13Right();
        promise14Round();
        promise14RoundGoesByLateAndNumber();
        promise15Ahead();
        Due.end();
    }

    /** One pipe of air 100, and a dial of each need. */
    private static TownClocks town(int... needs) {
        TownClocks x = new TownClocks();
        x.pipe(NONE, 0, 0);
        for (int need : needs) {
            x.dial(0, need, 0);
        }
        return x;
    }

    private static void states(String when, TownClocks x, int dial, long... want) {
        for (int what = 0; what < want.length; what++) {
            Due.due(when + ", state(" + dial + ", " + what + ")", x.state(dial, what), want[what]);
        }
    }

    private static void promise6Puff() {
        Due.due("6: no dials", new TownClocks().puff(), 0);
        TownClocks x = town(100, 90, 80, 1);
        Due.due("6: none misses with just its need", x.puff(), 0);
        x.leak(0, 1);
        Due.due("6: one", x.puff(), 1);
        x.leak(0, 11);
        Due.due("6: two", x.puff(), 2);
        x.leak(0, 60);
        Due.due("6: three", x.puff(), 3);
        x.leak(0, 0);
        Due.due("6: none again", x.puff(), 0);
        Due.due("6: the minute", x.now(0), 5);
        states("6: late", x, 0, 3, 0, 5, 0);
        states("6: late", x, 2, 1, 0, 5, 0);
        states("6: never late", x, 3, 0, 0, 5, 0);
    }

    private static void promise6PuffsHaveAnEnd() {
        TownClocks x = town(100);
        for (int i = 0; i < 99999; i++) {
            x.puff();
        }
        x.leak(0, 1);
        Due.due("6: the last", x.puff(), 1);
        Due.due("6: one more", x.puff(), STATE);
        Due.due("6: the minute stays", x.now(0), 100000);
        states("6: nothing is changed", x, 0, 1, 0, 100000, 1);
    }

    private static void promise7Drift() {
        TownClocks x = new TownClocks();
        Due.due("7: at first", x.drift(5), 0);
        Due.due("7: above", x.drift(6), BAD);
        Due.due("7: below", x.drift(-6), BAD);
        Due.due("7: what it was", x.drift(-5), 5);
        x.puff();
        Due.due("7: in force", x.now(1), -5);
        Due.due("7: what it was then", x.drift(0), -5);
        x.puff();
        Due.due("7: none", x.now(1), -5);
        x.drift(3);
        x.puff();
        Due.due("7: added", x.now(1), -2);
    }

    private static void promise8Sight() {
        TownClocks x = new TownClocks();
        Due.due("8: at first", x.sight(), 0);
        x.drift(4);
        Due.puffs(x, 3);
        Due.due("8: as found", x.sight(), 12);
        Due.due("8: put right", x.sight(), 0);
        x.puff();
        Due.due("8: the drift stays", x.sight(), 4);
        Due.due("8: how many", x.now(4), 4);
    }

    private static void promise9Now() {
        TownClocks x = new TownClocks();
        Due.due("9: above", x.now(5), BAD);
        Due.due("9: below", x.now(-1), BAD);
        x.drift(-3);
        Due.puffs(x, 7);
        nows("9: ahead of the first", x, 7, -21, -35, 35, 0);
        x.sight();
        nows("9: at a sighting", x, 7, 0, 0, 0, 1);
        Due.puffs(x, 2);
        nows("9: behind it", x, 9, -6, -10, 10, 1);
    }

    private static void nows(String when, TownClocks x, long... want) {
        for (int what = 0; what < want.length; what++) {
            Due.due(when + ", now(" + what + ")", x.now(what), want[what]);
        }
    }

    private static void promise10Look() {
        TownClocks x = town(100, 100);
        x.leak(0, 1);
        Due.puffs(x, 4);
        x.leak(0, 0);
        Due.puffs(x, 2);
        Due.due("10: late", x.look(0), 4);
        states("10: known", x, 0, 4, 4, 4);
        states("10: not looked at", x, 1, 4, 0, 6);
        x.puff();
        states("10: known less and less", x, 0, 4, 4, 5);
        Due.due("10: no such one", x.look(2), BAD);
        Due.due("10: below", x.look(-1), BAD);
    }

    private static void promise11State() {
        TownClocks x = new TownClocks();
        x.pipe(NONE, 0, 0);
        x.pipe(0, 10, 0);
        x.dial(1, 91, 1);
        Due.puffs(x, 3);
        states("11: of a dial", x, 0, 3, 0, 3, 3, 1, 91);
        Due.due("11: what above", x.state(0, 6), BAD);
        Due.due("11: what below", x.state(0, -1), BAD);
        Due.due("11: no such one", x.state(1, 0), BAD);
        Due.due("11: below", x.state(-1, 0), BAD);
        TownClocks y = town(100);
        y.leak(0, 1);
        Due.puffs(y, 2);
        y.leak(0, 0);
        y.puff();
        Due.due("11: a puff that moves it ends the run", y.state(0, 3), 0);
        y.leak(0, 1);
        y.puff();
        Due.due("11: the run begins anew", y.state(0, 3), 1);
    }

    private static void promise12Put() {
        TownClocks x = town(100);
        Due.due("12: nought", x.put(0, 0), BAD);
        Due.due("12: above", x.put(0, 61), BAD);
        Due.due("12: below", x.put(0, -61), BAD);
        Due.due("12: no such one", x.put(1, 1), BAD);
        Due.due("12: dial below", x.put(-1, 1), BAD);
        Due.due("12: most", x.put(0, 60), -60);
        Due.due("12: least", x.put(0, -60), 0);
        x.leak(0, 1);
        Due.puffs(x, 11);
        Due.due("12: some", x.put(0, 4), 7);
        states("12: both ends", x, 0, 7, -4, 7, 11);
        x.look(0);
        x.puff();
        Due.due("12: back", x.put(0, -2), 10);
        states("12: both ends behind a look", x, 0, 10, 9, 10, 12);
        Due.due("12: it does not light a dark one", x.kind(0), 3);
    }

    private static void promise13Right() {
        TownClocks x = town(100, 100);
        x.leak(0, 1);
        Due.puffs(x, 12);
        x.put(0, 2);
        Due.due("13: what it was", x.right(0), 10);
        states("13: right", x, 0, 0, 0, 0, 0);
        Due.due("13: no longer dark", x.kind(0), 0);
        Due.due("13: again", x.right(0), 0);
        states("13: another one", x, 1, 12, 0, 12, 12);
        Due.due("13: the latest puff was missed all the same", x.count(4), 2);
        x.puff();
        states("13: a puff later", x, 0, 1, 0, 1, 1);
        x.put(1, 20);
        Due.due("13: ahead", x.right(1), -7);
        Due.due("13: no such one", x.right(2), BAD);
        Due.due("13: below", x.right(-1), BAD);
    }

    private static void promise14Round() {
        TownClocks x = town(100, 100, 100);
        Due.due("14: nought", x.round(0), BAD);
        Due.due("14: above", x.round(11), BAD);
        Due.due("14: below", x.round(-1), BAD);
        Due.due("14: all are right", x.round(10), 0);
        x.put(0, -10);
        x.leak(0, 1);
        Due.puffs(x, 10);
        x.put(2, 10);
        Due.due("14: those with nought are not gone to", x.round(10), 2);
        states("14: right", x, 0, 0, 0, 0, 0);
        states("14: not gone to", x, 2, 0, -10, 0, 10);
        Due.due("14: no longer dark", x.kind(1), 0);
        Due.due("14: dark still", x.kind(2), 3);
    }

    private static void promise14RoundGoesByLateAndNumber() {
        TownClocks x = town(100, 100, 100, 100, 100);
        x.put(0, 2);
        x.put(1, -3);
        x.put(2, 3);
        x.put(3, -3);
        x.put(4, 4);
        Due.due("14: two", x.round(2), 2);
        long[] behindTwo = {-2, 0, -3, 3, 0};
        for (int d = 0; d < 5; d++) {
            Due.due("14: behind two, late of " + d, x.state(d, 0), behindTwo[d]);
        }
        Due.due("14: one", x.round(1), 1);
        Due.due("14: the least number", x.state(2, 0), 0);
        Due.due("14: not the next", x.state(3, 0), 3);
        TownClocks y = new TownClocks();
        y.pipe(NONE, 1, 0);
        for (int i = 0; i < 12; i++) {
            y.dial(0, 100, 0);
        }
        y.puff();
        Due.due("14: ten at most", y.round(10), 10);
        Due.due("14: two are left", y.count(6), 2);
        Due.due("14: the last ones", y.state(10, 0), 1);
    }

    private static void promise15Ahead() {
        TownClocks x = new TownClocks();
        x.pipe(NONE, 0, 0);
        x.pipe(0, 0, 1);
        x.pipe(1, 0, 9);
        x.pipe(2, 0, 1);
        x.pipe(3, 0, 20);
        long[] want = {0, 10, 10, 20, 40};
        for (int p = 0; p < 5; p++) {
            x.dial(p, 90, 1);
            Due.due("15: behind pipe " + p, x.ahead(p), want[p]);
        }
        x.dial(4, 90, 2);
        x.dial(4, 90, 0);
        Due.due("15: a tower is a bell", x.ahead(5), 40);
        Due.due("15: a dial is none", x.ahead(6), KIND);
        Due.due("15: no such one", x.ahead(7), BAD);
        Due.due("15: below", x.ahead(-1), BAD);
        x.leak(0, 20);
        Due.puffs(x, 9);
        Due.due("15: not dark yet", x.ahead(4), 40);
        x.puff();
        Due.due("15: a dark bell is told as no bell", x.ahead(4), KIND);
        Due.due("15: a dark tower is told as no bell", x.ahead(5), KIND);
        x.right(4);
        Due.due("15: a bell again", x.ahead(4), 40);
    }
}
