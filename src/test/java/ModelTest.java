import java.util.Random;

/** Random runs: the class and PlainModel must answer alike, and no call may throw. */
public final class ModelTest {
    private static final int RUNS = 600, STEPS = 512;
    private static final int[] WILD = {Integer.MIN_VALUE, Integer.MAX_VALUE, -1000000, -1000001, -1, -2, 30, 40, 61, 101};

    private final Random random;
    private final TownClocks x = new TownClocks();
    private final PlainModel y = new PlainModel();
    private final String run;
    /** How many pipes and dials this run is after, so that few and many are both seen. */
    private final int pipesWanted;
    private final int dialsWanted;

    private ModelTest(int seed) {
        random = new Random(seed);
        run = "run " + seed + ": ";
        pipesWanted = 1 + random.nextInt(seed % 5 == 0 ? 32 : 8);
        dialsWanted = 1 + random.nextInt(seed % 5 == 0 ? 44 : 10);
    }

    public static void main(String[] args) {
        for (int seed = 0; seed < RUNS && !Due.anyWrong(); seed++) {
            ModelTest test = new ModelTest(seed);
            for (int i = 0; i < STEPS && !Due.anyWrong(); i++) {
                test.oneCall();
            }
        }
        Due.end();
    }

    private int from(int least, int most) {
        if (random.nextInt(60) == 0) {
            return WILD[random.nextInt(WILD.length)];
        }
        if (random.nextInt(40) == 0) {
            return random.nextBoolean() ? least - 1 : most + 1;
        }
        return least + random.nextInt(Math.max(1, most - least + 1));
    }

    private int aPipe() {
        return from(0, y.count(0) - 1);
    }

    private int aDial() {
        return from(0, y.count(1) - 1);
    }

    private void oneCall() {
        if (y.count(0) < pipesWanted && random.nextInt(3) > 0) {
            newPipe();
        } else if (y.count(1) < dialsWanted && random.nextInt(3) > 0) {
            newDial();
        } else {
            switch (random.nextInt(6)) {
                case 0 -> pipesCall();
                case 1 -> minutesCall();
                case 2 -> handsCall();
                case 3 -> explainingCall();
                case 4 -> contractsCall();
                default -> askedCall();
            }
        }
    }

    private void newPipe() {
        int parent = y.count(0) == 0 || random.nextInt(4) == 0 ? TownClocks.NONE : aPipe();
        int loss = random.nextInt(3) == 0 ? from(0, 50) : from(0, 8);
        int lag = from(0, 20);
        Due.due(run + "pipe(" + parent + ", " + loss + ", " + lag + ")", x.pipe(parent, loss, lag),
            y.pipe(parent, loss, lag));
    }

    private void newDial() {
        int pipe = aPipe();
        int air = Math.max(1, y.told(Math.max(0, Math.min(pipe, y.count(0) - 1)), 0));
        int need = random.nextInt(3) == 0 ? from(1, 100) : from(Math.max(1, air - 12), Math.min(100, air + 1));
        int sort = from(0, 2);
        Due.due(run + "dial(" + pipe + ", " + need + ", " + sort + ")", x.dial(pipe, need, sort),
            y.dial(pipe, need, sort));
    }

    private void pipesCall() {
        int pipe = aPipe();
        if (random.nextInt(3) == 0) {
            int v = random.nextInt(3) == 0 ? from(0, 60) : random.nextInt(2) * from(0, 9);
            Due.due(run + "leak(" + pipe + ", " + v + ")", x.leak(pipe, v), y.leak(pipe, v));
        } else {
            int what = from(0, 2);
            Due.due(run + "told(" + pipe + ", " + what + ")", x.told(pipe, what), y.told(pipe, what));
        }
    }

    private void minutesCall() {
        int v = from(-5, 5);
        switch (random.nextInt(12)) {
            case 0 -> Due.due(run + "drift(" + v + ")", x.drift(v), y.drift(v));
            case 1 -> Due.due(run + "sight()", x.sight(), y.sight());
            case 2, 3, 4 -> Due.due(run + "now(" + v + ")", x.now(v), y.now(v));
            default -> {
                for (int i = random.nextInt(4); i >= 0; i--) {
                    Due.due(run + "puff()", x.puff(), y.puff());
                }
            }
        }
    }

    private void handsCall() {
        int dial = aDial();
        switch (random.nextInt(10)) {
            case 0 -> Due.due(run + "look(" + dial + ")", x.look(dial), y.look(dial));
            case 1 -> {
                int m = random.nextBoolean() ? from(-60, 60) : from(-3, 3);
                Due.due(run + "put(" + dial + ", " + m + ")", x.put(dial, m), y.put(dial, m));
            }
            case 2 -> Due.due(run + "right(" + dial + ")", x.right(dial), y.right(dial));
            case 3 -> {
                int k = random.nextBoolean() ? from(1, 3) : from(1, 10);
                Due.due(run + "round(" + k + ")", x.round(k), y.round(k));
            }
            case 4, 5 -> Due.due(run + "ahead(" + dial + ")", x.ahead(dial), y.ahead(dial));
            default -> {
                int what = from(0, 5);
                Due.due(run + "state(" + dial + ", " + what + ")", x.state(dial, what), y.state(dial, what));
            }
        }
    }

    private void explainingCall() {
        switch (random.nextInt(5)) {
            case 0 -> {
                int dial = aDial();
                int is = from(0, 1);
                Due.due(run + "mark(" + dial + ", " + is + ")", x.mark(dial, is), y.mark(dial, is));
            }
            case 1 -> markAsALeakWould();
            case 2 -> Due.due(run + "next()", x.next(), y.next());
            default -> {
                int i = from(0, random.nextBoolean() ? 2 : 31);
                int what = from(0, 1);
                Due.due(run + "explains(" + i + ", " + what + ")", x.explains(i, what), y.explains(i, what));
            }
        }
    }

    /** Sets that were drawn dial by dial are seldom explained; those of a leak are. */
    private void markAsALeakWould() {
        int leaky = random.nextInt(Math.max(1, y.count(0)));
        int l = 1 + random.nextInt(random.nextBoolean() ? 15 : 60);
        int odd = random.nextInt(100);
        for (int d = 0; d < y.count(1); d++) {
            boolean missed = y.wouldMiss(d, leaky, l) != (odd == d);
            Due.due(run + "mark(" + d + ")", x.mark(d, missed ? 1 : 0), y.mark(d, missed ? 1 : 0));
        }
        Due.due(run + "explains(0, 1)", x.explains(0, 1), y.explains(0, 1));
        Due.due(run + "next()", x.next(), y.next());
    }

    private void contractsCall() {
        switch (random.nextInt(8)) {
            case 0 -> readText();
            case 1 -> {
                long w = random.nextLong();
                int n = from(1, 8);
                Due.due(run + "feed(" + w + ", " + n + ")", x.feed(w, n), y.feed(w, n));
            }
            case 2 -> Due.due(run + "fault()", x.fault(), y.fault());
            case 3 -> Due.due(run + "contracts()", x.contracts(), y.contracts());
            default -> {
                int dial = aDial();
                Due.due(run + "owes(" + dial + ")", x.owes(dial), y.owes(dial));
            }
        }
    }

    private void readText() {
        StringBuilder s = new StringBuilder();
        int wanted = random.nextInt(random.nextInt(5) == 0 ? 30 : 4);
        for (int i = 0; i < wanted; i++) {
            s.append(aContract());
        }
        if (random.nextInt(3) == 0 && s.length() > 0) {
            spoil(s);
        }
        for (int at = 0; at < s.length();) {
            int n = Math.min(s.length() - at, 1 + random.nextInt(8));
            long w = Due.packed(s.substring(at, at + n)) | (n < 8 ? random.nextLong() << (8 * n) : 0);
            Due.due(run + "feed(" + w + ", " + n + ")", x.feed(w, n), y.feed(w, n));
            at += n;
        }
        Due.due(run + "contracts() of '" + s + "'", x.contracts(), y.contracts());
        Due.due(run + "fault()", x.fault(), y.fault());
    }

    private String gap() {
        String[] gaps = {"", "", " ", " ", "\n", "  ", " \n "};
        return gaps[random.nextInt(gaps.length)];
    }

    private int amount() {
        return random.nextInt(random.nextInt(8) == 0 ? 10000 : 12);
    }

    private String aContract() {
        int there = Math.max(1, y.count(1));
        int dial = random.nextInt(30) == 0 ? there : random.nextInt(there);
        String head = gap() + "dial" + gap() + dial + gap();
        String end = gap() + ";" + gap();
        return switch (random.nextInt(3)) {
            case 0 -> head + "flat" + gap() + amount() + end;
            case 1 -> head + "right" + gap() + amount() + end;
            default -> head + "less" + gap() + "<" + gap() + amount() + " " + gap() + amount() + end;
        };
    }

    private void spoil(StringBuilder s) {
        String bytes = "dialflatrightless0123456789;;<<  \n\n,xXzZ`{/:=\t\0\u00ff";
        int at = random.nextInt(s.length());
        char c = bytes.charAt(random.nextInt(bytes.length()));
        switch (random.nextInt(4)) {
            case 0 -> s.setLength(at);
            case 1 -> s.deleteCharAt(at);
            case 2 -> s.setCharAt(at, c);
            default -> s.insert(at, c);
        }
    }

    private void askedCall() {
        int dial = aDial();
        switch (random.nextInt(6)) {
            case 0 -> Due.due(run + "kind(" + dial + ")", x.kind(dial), y.kind(dial));
            case 1 -> {
                int kind = from(0, 3);
                Due.due(run + "as(" + dial + ", " + kind + ")", x.as(dial, kind), y.as(dial, kind));
            }
            case 2 -> {
                int what = from(0, 1);
                Due.due(run + "ask(" + dial + ", " + what + ")", x.ask(dial, what), y.ask(dial, what));
            }
            case 3 -> {
                int i = from(0, 5);
                Due.due(run + "trace(" + i + ")", x.trace(i), y.trace(i));
            }
            default -> {
                int what = from(0, 7);
                Due.due(run + "count(" + what + ")", x.count(what), y.count(what));
            }
        }
    }
}
