/** Towns that several tests begin with. */
final class Towns {
    static final int NONE = TownClocks.NONE;

    private Towns() {
    }

    /** One pipe of air 100, and a dial of need 100 for each sort. */
    static TownClocks ofSorts(int... sorts) {
        TownClocks x = new TownClocks();
        x.pipe(NONE, 0, 0);
        for (int sort : sorts) {
            x.dial(0, 100, sort);
        }
        return x;
    }

    /** One pipe of air 100, and so many dials of need 100. */
    static TownClocks ofDials(int dials) {
        return ofSorts(new int[dials]);
    }

    /** All pipes that there may be, one behind the other, without losses; each has a lag of 20. */
    static TownClocks fullOfPipes() {
        TownClocks x = new TownClocks();
        for (int p = 0; p < 30; p++) {
            x.pipe(p == 0 ? NONE : p - 1, 0, 20);
        }
        return x;
    }

    /** All dials that there may be, a dial, a bell and a tower in turn. */
    static TownClocks fullOfDials() {
        TownClocks x = new TownClocks();
        x.pipe(NONE, 0, 0);
        for (int d = 0; d < 40; d++) {
            x.dial(0, 100 - d, d % 3);
        }
        return x;
    }

    /** Nothing in it is as in a new object: what a refused call spoils can be seen. */
    static TownClocks busy() {
        TownClocks x = new TownClocks();
        x.pipe(NONE, 10, 7);
        x.pipe(0, 20, 8);
        x.pipe(NONE, 5, 20);
        x.dial(0, 85, 1);
        x.dial(1, 70, 2);
        x.dial(2, 95, 0);
        x.dial(2, 96, 1);
        Due.readText(x, "dial 0 right 2; dial 1 flat 3; dial 2 less<2 5;");
        Due.readText(x, "dial 9 flat 1;");
        x.drift(-3);
        x.leak(1, 4);
        Due.puffs(x, 11);
        x.right(1);
        x.sight();
        x.leak(0, 6);
        Due.puffs(x, 2);
        x.look(0);
        x.put(2, 3);
        x.puff();
        x.mark(0, 1);
        Due.feedText(x, "dial 2 flat 9;");
        x.ask(1, 1);
        return x;
    }
}
