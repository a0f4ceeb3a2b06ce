/** Promises 23 to 27: kind, as, ask, trace, count. */
public final class AskedTest {
    private static final int NONE = TownClocks.NONE, BAD = TownClocks.BAD, KIND = TownClocks.KIND;

    public static void main(String[] args) {
        promise23Kind();
        promise24As();
        promise25And26Ask();
        promise25And26AskOfDarkOnes();
        promise25RefusedAsksLeaveTheTrace();
        promise27Count();
        promise27CountContractsAndTape();
        Due.end();
    }

    /** A dial, a bell and a tower on one pipe of air 100; they need 70, 80 and 90. */
    private static TownClocks town() {
        TownClocks x = new TownClocks();
        x.pipe(NONE, 0, 0);
        for (int sort = 0; sort < 3; sort++) {
            x.dial(0, 70 + 10 * sort, sort);
        }
        return x;
    }

    private static void promise23Kind() {
        TownClocks x = town();
        Due.due("23: no such one", x.kind(3), BAD);
        Due.due("23: below", x.kind(-1), BAD);
        x.leak(0, 60);
        Due.puffs(x, 9);
        for (int d = 0; d < 3; d++) {
            Due.due("23: nine missed, kind(" + d + ")", x.kind(d), d);
        }
        x.puff();
        for (int d = 0; d < 3; d++) {
            Due.due("23: ten missed, kind(" + d + ")", x.kind(d), 3);
        }
        x.put(0, 10);
        Due.due("23: put on by hand it stays dark", x.kind(0), 3);
        x.leak(0, 20);
        x.puff();
        Due.due("23: moved on", x.kind(0), 0);
        Due.due("23: moved on, a bell", x.kind(1), 1);
        Due.due("23: dark still", x.kind(2), 3);
        x.right(2);
        Due.due("23: put right", x.kind(2), 2);
        x.leak(0, 60);
        Due.puffs(x, 9);
        Due.due("23: nine missed since", x.kind(0), 0);
    }

    private static void promise24As() {
        TownClocks x = town();
        for (int d = 0; d < 3; d++) {
            x.put(d, d + 1);
        }
        long[][] want = {{-1, KIND, KIND, KIND}, {-2, -2, KIND, KIND}, {-3, -3, -3, KIND}};
        ases("24: ", x, want);
        Due.due("24: kind above", x.as(0, 4), BAD);
        Due.due("24: kind below", x.as(0, -1), BAD);
        Due.due("24: no such one", x.as(3, 0), BAD);
        Due.due("24: below", x.as(-1, 0), BAD);
        x.leak(0, 60);
        Due.puffs(x, 10);
        long[][] dark = {{9, KIND, KIND, 9}, {8, KIND, KIND, 8}, {7, KIND, KIND, 7}};
        ases("24: dark, ", x, dark);
    }

    private static void ases(String when, TownClocks x, long[][] want) {
        for (int d = 0; d < 3; d++) {
            for (int kind = 0; kind < 4; kind++) {
                Due.due(when + "as(" + d + ", " + kind + ")", x.as(d, kind), want[d][kind]);
            }
        }
    }

    /** One ask, and all of the trace that it leaves. */
    private static void asked(TownClocks x, int dial, int what, long answer, int... trace) {
        String call = "ask(" + dial + ", " + what + ")";
        Due.due("25: " + call, x.ask(dial, what), answer);
        for (int i = 0; i < trace.length; i++) {
            Due.due("26: trace(" + i + ") of " + call, x.trace(i), trace[i]);
        }
        for (int i = trace.length; i <= 16; i++) {
            Due.due("26: trace(" + i + ") of " + call, x.trace(i), NONE);
        }
        Due.due("26: trace below", x.trace(-1), NONE);
    }

    private static void promise25And26Ask() {
        TownClocks x = town();
        x.leak(0, 60);
        Due.puffs(x, 3);
        asked(x, 0, 0, 3, 10);
        asked(x, 1, 0, 13, 11, 10);
        asked(x, 2, 0, 26, 12, 11, 10);
        asked(x, 0, 1, 70, 20);
        asked(x, 1, 1, 93, 21, 20, 11, 10);
        asked(x, 2, 1, 116, 21, 20, 12, 11, 10);
        x.put(2, 20);
        asked(x, 2, 0, -14, 12, 11, 10);
        asked(x, 2, 1, 76, 21, 20, 12, 11, 10);
    }

    private static void promise25And26AskOfDarkOnes() {
        TownClocks x = town();
        x.leak(0, 60);
        Due.puffs(x, 12);
        for (int d = 0; d < 3; d++) {
            asked(x, d, 0, -12, 13, 10);
            asked(x, d, 1, 1070 + 10 * d, 22, 20);
        }
        x.right(1);
        asked(x, 1, 0, 10, 11, 10);
    }

    private static void promise25RefusedAsksLeaveTheTrace() {
        TownClocks x = town();
        Due.due("26: at first", x.trace(0), NONE);
        x.ask(1, 0);
        Due.due("25: what above", x.ask(1, 2), BAD);
        Due.due("25: what below", x.ask(1, -1), BAD);
        Due.due("25: no such one", x.ask(3, 0), BAD);
        Due.due("25: below", x.ask(-1, 0), BAD);
        Due.due("26: it stays", x.trace(0), 11);
        Due.due("26: it stays", x.trace(1), 10);
        Due.due("26: far above", x.trace(Integer.MAX_VALUE), NONE);
        Due.due("26: far below", x.trace(Integer.MIN_VALUE), NONE);
    }

    private static void counts(String when, TownClocks x, int... want) {
        for (int what = 0; what < want.length; what++) {
            Due.due(when + ", count(" + what + ")", x.count(what), want[what]);
        }
    }

    private static void promise27Count() {
        TownClocks x = town();
        x.pipe(0, 40, 0);
        x.dial(1, 100, 1);
        Due.due("27: above", x.count(8), BAD);
        Due.due("27: below", x.count(-1), BAD);
        counts("27: at first", x, 2, 4, 3, 0, 0, 0, 0, 0);
        Due.puffs(x, 10);
        counts("27: one is dark", x, 2, 4, 2, 1, 1, 0, 10, 0);
        x.leak(0, 15);
        x.puff();
        counts("27: two miss", x, 2, 4, 2, 1, 2, 0, 12, 0);
        x.put(0, 5);
        counts("27: one is ahead", x, 2, 4, 2, 1, 2, 0, 17, 0);
        x.right(3);
        counts("27: one is put right", x, 2, 4, 3, 0, 2, 0, 6, 0);
        x.dial(1, 100, 0);
        counts("27: a new one missed nothing", x, 2, 5, 3, 0, 2, 0, 6, 0);
        x.leak(0, 60);
        Due.puffs(x, 10);
        counts("27: all are dark", x, 2, 5, 0, 5, 5, 0, 5 + 10 + 11 + 10 + 10, 0);
    }

    private static void promise27CountContractsAndTape() {
        TownClocks x = town();
        Due.feedText(x, "dial 1 flat 0; dial 1 right 1;");
        counts("27: fed", x, 1, 3, 2, 0, 0, 0, 0, 30);
        x.contracts();
        counts("27: read", x, 1, 3, 2, 0, 0, 1, 0, 0);
        Due.feedText(x, "dial 0 flat 0; dial 2 less < 0 0;");
        x.contracts();
        counts("27: read again", x, 1, 3, 2, 0, 0, 3, 0, 0);
    }
}
