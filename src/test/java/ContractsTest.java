/** Promises 19 to 22: feed, contracts, fault, owes. */
public final class ContractsTest {
    private static final int NONE = TownClocks.NONE, BAD = TownClocks.BAD, FULL = TownClocks.FULL;

    public static void main(String[] args) {
        promise19Feed();
        promise19TheTapeIsAtMostThreeHundred();
        promise20Contracts();
        promise20NoneIsInForceBehindAFault();
        promise20And21Faults();
        promise20EarlierBytesAreGone();
        promise21LatestFault();
        promise22Owes();
        promise22LessGoesByLateBehindThePuff();
        promise22LatestContract();
        promise22MostOwed();
        Due.end();
    }

    /** One pipe of air 100 and as many dials of need 100. */
    private static TownClocks town(int dials) {
        TownClocks x = new TownClocks();
        x.pipe(NONE, 0, 0);
        for (int i = 0; i < dials; i++) {
            x.dial(0, 100, 0);
        }
        return x;
    }

    private static int read(TownClocks x, String text) {
        return Due.readText(x, text);
    }

    private static void promise19Feed() {
        TownClocks x = town(1);
        int[] wrong = {0, 9, -1, Integer.MIN_VALUE, Integer.MAX_VALUE};
        for (int n : wrong) {
            Due.due("19: feed of " + n, x.feed(0, n), BAD);
        }
        Due.due("19: one", x.feed(0xFFFFFFFFFFFFFF00L | 'd', 1), 1);
        Due.due("19: three, the highest first", x.feed(Due.packed("xxial"), 3), 4);
        Due.due("19: eight", x.feed(Due.packed("0flat12;"), 8), 12);
        Due.due("19: how many", x.count(7), 12);
        Due.due("19: they are what was fed", x.contracts(), 1);
        Due.due("19: none are left", x.count(7), 0);
        x.puff();
        Due.due("19: it is in force", x.owes(0), 12);
        Due.due("19: a byte above 127", x.feed(-1L, 8), 8);
        Due.due("19: is none", x.contracts(), -1000100);
    }

    private static void promise19TheTapeIsAtMostThreeHundred() {
        TownClocks x = town(1);
        for (int i = 1; i <= 37; i++) {
            Due.due("19: eight blanks", x.feed(Due.packed("        "), 8), 8 * i);
        }
        Due.due("19: none comes", x.feed(Due.packed("     "), 5), FULL);
        Due.due("19: nothing is changed", x.count(7), 296);
        Due.due("19: BAD is told ahead of FULL", x.feed(0, 9), BAD);
        Due.due("19: just full", x.feed(Due.packed("    "), 4), 300);
        Due.due("19: one more", x.feed(' ', 1), FULL);
        Due.due("19: blanks tell no contracts", x.contracts(), 0);
        Due.due("19: empty then", x.feed(' ', 1), 1);
        x.contracts();
        StringBuilder whole = new StringBuilder();
        for (int i = 0; i < 27; i++) {
            whole.append("dial0flat1;");
        }
        Due.due("19: 297 bytes", Due.feedText(x, whole.toString()), 297);
        Due.due("20: most contracts", x.contracts(), 27);
        for (int i = 0; i < 37; i++) {
            x.feed(Due.packed("        "), 8);
        }
        x.feed(Due.packed("dial"), 4);
        Due.due("20: the end of a full tape", x.contracts(), -1000400);
    }

    private static void promise20Contracts() {
        TownClocks x = town(3);
        Due.due("20: an empty tape", x.contracts(), 0);
        Due.due("20: one", read(x, "dial 0 flat 1;"), 1);
        Due.due("20: three sorts", read(x, "dial 0 flat 1;dial 1 right 2;dial 2 less < 3 4;"), 3);
        Due.due("20: without blanks", read(x, "dial0flat1;dial1right2;dial2less<3 4;"), 3);
        Due.due("20: with many", read(x, " \n dial\n\n0 flat  1\n;  \ndial\n2\nless\n<\n3\n4\n;\n "), 2);
        Due.due("20: four figures", read(x, "dial 0002 flat 9999;"), 1);
        Due.due("20: one dial twice", read(x, "dial 1 flat 1;dial 1 flat 2;"), 2);
        Due.due("20: how many dials have one", x.count(5), 3);
        Due.due("20: no fault", x.fault(), 0);
    }

    private static void promise20NoneIsInForceBehindAFault() {
        TownClocks x = town(2);
        read(x, "dial 0 flat 3;");
        x.puff();
        Due.due("20: a fault behind good ones", read(x, "dial 0 flat 5;dial 1 flat 5;dial 2 flat 5;"), -1000133);
        Due.due("20: the tape is empty", x.count(7), 0);
        Due.due("20: one is in force", x.count(5), 1);
        Due.due("20: what it owed stays", x.owes(0), 3);
        x.puff();
        Due.due("20: the earlier one is in force", x.owes(0), 6);
        Due.due("20: the other has none", x.owes(1), 0);
        Due.due("20: a good one behind a fault", read(x, "dial 1 flat 5;"), 1);
        x.puff();
        Due.due("20: those of the faulty text did not wait", x.owes(0), 9);
        Due.due("20: the good one", x.owes(1), 5);
    }

    private static void fault(String text, int number, int place) {
        TownClocks x = town(2);
        Due.due("20: contracts of '" + text + "'", read(x, text), -1000100 - place);
        Due.due("21: fault of '" + text + "'", x.fault(), number);
        Due.due("20: none is in force of '" + text + "'", x.count(5), 0);
        Due.due("20: the tape is empty behind '" + text + "'", x.count(7), 0);
    }

    private static void promise20And21Faults() {
        fault("flat", 1, 0);
        fault("  0", 1, 2);
        fault(";", 1, 0);
        fault("<", 1, 0);
        fault(",", 1, 0);
        fault("dial", 1, 4);
        fault("dial  \n", 1, 7);
        fault("dials 0 flat 1;", 1, 0);
        fault("dia l0 flat 1;", 1, 0);
        fault("Dial 0 flat 1;", 1, 0);
        fault("xial 0 flat 1;", 1, 0);
        fault("diam 0 flat 1;", 1, 0);
        fault("dialz 0 flat 1;", 1, 0);
        fault("diala 0 flat 1;", 1, 0);
        fault("diAl 0 flat 1;", 1, 0);
        fault("dialflat 0;", 1, 0);
        fault("dial dial 0", 1, 5);
        fault("dial ; flat", 1, 5);
        fault("dial 2 flat 1;", 2, 5);
        fault("dial 9999;", 2, 5);
        fault("dial 2", 2, 5);
        fault("dial 0002 flat 12345;", 2, 5);
        fault("dial 00000 flat 1;", 1, 5);
        fault("dial 99999 flat 1;", 1, 5);
        fault("dial 0", 1, 6);
        fault("dial 0 0", 1, 7);
        fault("dial 0 dial 1;", 1, 7);
        fault("dial 0 flats 1;", 1, 7);
        fault("dial 0 rig ht 1;", 1, 7);
        fault("dial 0 abcdefg 1;", 1, 7);
        fault("dial 0 flat", 1, 11);
        fault("dial 0 flat;", 1, 11);
        fault("dial 0 flat < 1;", 1, 12);
        fault("dial 0 flat -1;", 1, 12);
        fault("dial 0 flat 12345;", 1, 12);
        fault("dial 0 flat 00000001;", 1, 12);
        fault("dial 0 flat 1", 1, 13);
        fault("dial 0 flat 1 ", 1, 14);
        fault("dial 0 flat 1 1;", 1, 14);
        fault("dial 0 flat 1,", 1, 13);
        fault("dial 0 right right", 1, 13);
        fault("dial 0 less 1 2;", 1, 12);
        fault("dial 0 less", 1, 11);
        fault("dial 0 less ;", 1, 12);
        fault("dial 0 less<", 1, 12);
        fault("dial 0 less<<", 1, 12);
        fault("dial 0 less<12;", 1, 14);
        fault("dial 0 less<1 2", 1, 15);
        fault("dial 0 less<1 2 3;", 1, 16);
        fault("dial 0 less<12345 2;", 1, 12);
        fault("dial 0 less<1 23456;", 1, 14);
        fault("dial 0 flat 1;;", 1, 14);
        fault("dial 0 flat 1; x", 1, 15);
        fault("dial 0 flat 1;dial 1 flat 1;dial 2 flat x;", 2, 33);
        fault("dial\t0 flat 1;", 1, 4);
        fault("dial\r0 flat 1;", 1, 4);
        fault("dial 0 flat 1;\0", 1, 14);
        fault("dial \u00e9", 1, 5);
        fault("dial 0 fl\u00e9t 1;", 1, 7);
        fault("dial 0 {", 1, 7);
        fault("dial 0 `", 1, 7);
        fault("dial :", 1, 5);
        fault("dial /", 1, 5);
    }

    private static void promise20EarlierBytesAreGone() {
        TownClocks x = town(1);
        read(x, "dial 0 flat 9999999999;");
        Due.due("20: four figures at the end", read(x, "dial 0 flat 1234"), -1000116);
        read(x, "dialdialdialdial");
        Due.due("20: a name at the end", read(x, " dial"), -1000105);
        Due.due("20: a blank", read(x, " "), 0);
        for (int i = 0; i < 37; i++) {
            x.feed(Due.packed("        "), 8);
        }
        x.contracts();
        StringBuilder full = new StringBuilder("dial 0 flat 1");
        while (full.length() < 300) {
            full.insert(0, ' ');
        }
        Due.due("20: figures at the end of a full tape", read(x, full.toString()), -1000400);
    }

    private static void promise21LatestFault() {
        TownClocks x = town(1);
        Due.due("21: before one", x.fault(), 0);
        read(x, "dial 1 flat 1;");
        Due.due("21: no such dial", x.fault(), 2);
        read(x, "dial 0 flat 1;");
        Due.due("21: it stays behind a good text", x.fault(), 2);
        read(x, "x");
        Due.due("21: the latest", x.fault(), 1);
        x.dial(0, 100, 0);
        Due.due("21: the dial is there now", read(x, "dial 1 flat 1;"), 1);
    }

    private static void promise22Owes() {
        TownClocks x = town(4);
        Due.due("22: without one", x.owes(0), 0);
        Due.due("22: no such one", x.owes(4), BAD);
        Due.due("22: below", x.owes(-1), BAD);
        x.leak(0, 1);
        x.puff();
        read(x, "dial 0 flat 3; dial 1 right 5; dial 2 less < 3 7;");
        Due.due("22: puffs ahead of it are not paid", x.owes(0), 0);
        owed("22: missed", x, 3, 0, 7, 0);
        owed("22: missed again", x, 6, 0, 7, 0);
        x.leak(0, 0);
        owed("22: moved on", x, 9, 5, 7, 0);
        x.put(2, 1);
        owed("22: put on by hand", x, 12, 10, 14, 0);
        x.right(0);
        x.look(1);
        Due.due("22: to be put right costs nothing", x.owes(0), 12);
        Due.due("22: to be looked at costs nothing", x.owes(1), 10);
    }

    /** What the dials owe behind one puff more. */
    private static void owed(String when, TownClocks x, int... want) {
        x.puff();
        for (int d = 0; d < want.length; d++) {
            Due.due(when + ", owes(" + d + ")", x.owes(d), want[d]);
        }
    }

    private static void promise22LessGoesByLateBehindThePuff() {
        TownClocks x = town(2);
        read(x, "dial 0 less < 1 4; dial 1 less < 0 4;");
        x.leak(0, 1);
        owed("22: late by one", x, 0, 0);
        x.put(0, 1);
        x.put(1, 3);
        owed("22: late by one again; ahead by one", x, 0, 4);
        x.leak(0, 0);
        x.put(0, 1);
        owed("22: right; ahead by one", x, 4, 8);
    }

    private static void promise22LatestContract() {
        TownClocks x = town(2);
        read(x, "dial 0 flat 3; dial 1 flat 1;");
        Due.puffs(x, 2);
        read(x, "dial 0 right 4;");
        Due.due("22: what it owed is gone", x.owes(0), 0);
        Due.due("22: another one's is not", x.owes(1), 2);
        owed("22: the latest", x, 4, 3);
        read(x, "dial 0 right 4;");
        Due.due("22: gone, though told alike", x.owes(0), 0);
        read(x, "dial 0 flat 1; dial 0 flat 9; dial 0 flat 5;");
        owed("22: the latest of one text", x, 5, 4);
    }

    private static void promise22MostOwed() {
        TownClocks x = town(1);
        read(x, "dial 0 flat 9999;");
        for (int i = 0; i < 100000; i++) {
            x.puff();
        }
        Due.due("22: all the puffs that there are", x.owes(0), 999900000);
    }
}
