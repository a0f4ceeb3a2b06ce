/** The edges of promises 19 to 22: feed, contracts, fault, owes. */
final class ContractsEdges {
    private static final int NONE = TownClocks.NONE, BAD = TownClocks.BAD, FULL = TownClocks.FULL;
    private static final int LEAST = Integer.MIN_VALUE, MOST = Integer.MAX_VALUE;

    private ContractsEdges() {
    }

    /** Two dials that are there; the text is at fault, at that place. */
    private static void fault(String text, int number, int place) {
        fault(Towns.ofDials(2), text, number, place);
    }

    private static void fault(TownClocks x, String text, int number, int place) {
        Due.due("contracts() of '" + text + "'", Due.readText(x, text), -1000100 - place);
        Due.due("fault() of '" + text + "'", x.fault(), number);
        Due.due("contracts in force by '" + text + "'", x.count(5), 0);
    }

    /** Two dials that are there; the text tells so many contracts. */
    private static void good(String text, int contracts) {
        TownClocks x = Towns.ofDials(2);
        Due.due("contracts() of '" + text + "'", Due.readText(x, text), contracts);
        Due.due("fault() of '" + text + "'", x.fault(), 0);
    }

    private static String blanks(int n) {
        return " ".repeat(n);
    }

    /** A tape that has so many bytes: blanks, but for one contract at its beginning. */
    private static TownClocks tapeOf(int bytes) {
        TownClocks x = Towns.ofDials(2);
        String text = "dial 1 flat 7;";
        Due.feedText(x, text + blanks(bytes - text.length()));
        return x;
    }

    private static void owed(String when, TownClocks x, int... want) {
        for (int d = 0; d < want.length; d++) {
            Due.due(when + ", owes(" + d + ")", x.owes(d), want[d]);
        }
    }

    // ---- 19

    @Says(promise = 19, words = "THE TAPE has at most 300 bytes")
    static void theTapeHasThreeHundredBytesAtMost() {
        Due.due("eight up to 300", tapeOf(292).feed(Due.packed(blanks(8)), 8), 300);
        Due.due("one up to 300", tapeOf(299).feed(' ', 1), 300);
        TownClocks x = tapeOf(300);
        Due.due("how many", x.count(7), 300);
        Due.due("all of them are read", x.contracts(), 1);
        Due.due("empty then, it takes some again", x.feed(' ', 1), 1);
    }

    @Says(promise = 19, words = "BAD: n; FULL: none comes.")
    static void whatWouldGoBeyondDoesNotCome() {
        for (int n = 1; n <= 8; n++) {
            int bytes = n;
            Twins.refused(n + " at 300", () -> tapeOf(300), x -> x.feed(Due.packed(blanks(bytes)), bytes), FULL);
            Twins.refused(n + " by one beyond", () -> tapeOf(301 - bytes), x -> x.feed(-1, bytes), FULL);
            Due.due(n + ", just so many", tapeOf(300 - bytes).feed(0, bytes), 300);
        }
        Twins.refused("BAD ahead of FULL, 0", () -> tapeOf(300), x -> x.feed(0, 0), BAD);
        Twins.refused("BAD ahead of FULL, 9", () -> tapeOf(300), x -> x.feed(0, 9), BAD);
        TownClocks y = tapeOf(293);
        y.feed(Due.packed(blanks(8)), 8);
        Due.due("fewer may come behind one that was refused", y.feed(Due.packed(blanks(7)), 7), 300);
    }

    @Says(promise = 19, words = "The lowest n bytes of w (1 to 8), the highest of them first, come behind the tape")
    static void feedIsOfOneToEight() {
        TownClocks x = Towns.ofDials(2);
        Due.due("1, the lowest", x.feed(Due.packed("xyzxyzxd"), 1), 1);
        Due.due("3, the lowest", x.feed(Due.packed("01234ial"), 3), 4);
        Due.due("8, all", x.feed(Due.packed("1flat21;"), 8), 12);
        Due.due("they are read", x.contracts(), 1);
        x.puff();
        owed("the highest first", x, 0, 21);
        int[] wrong = {0, 9, -1, LEAST, MOST};
        for (int n : wrong) {
            Twins.refused("feed of " + n, Towns::busy, y -> y.feed(Due.packed("        "), n), BAD);
        }
    }

    @Says(promise = 19, words = "how many it has.")
    static void bytesOfAllValuesCome() {
        TownClocks x = Towns.ofDials(1);
        Due.due("the highest byte with its sign", x.feed(0x80FFFFFFFFFFFF00L, 8), 8);
        Due.due("noughts", x.feed(0, 8), 16);
        Due.due("they count", x.count(7), 16);
        Due.due("the first is none", x.contracts(), -1000100);
    }

    // ---- 20, the tokens

    @Says(promise = 20, words = "NUMBERS (figures, 4 at most)")
    static void numbersHaveFourFiguresAtMost() {
        good("dial 0 flat 0;", 1);
        good("dial 0 flat 9999;", 1);
        good("dial 0 flat 0000;", 1);
        good("dial 0001 flat 1;", 1);
        good("dial 0 less<9999 9999;", 1);
        fault("dial 0 flat 10000;", 1, 12);
        fault("dial 0 flat 00000;", 1, 12);
        fault("dial 00001 flat 1;", 1, 5);
        fault("dial 0 less<00001 1;", 1, 12);
        fault("dial 0 less<1 00001;", 1, 14);
    }

    @Says(promise = {20, 21}, words = "or is none (a run of five figures or more, at its first")
    static void aLongRunOfFiguresIsNone() {
        fault("12345", 1, 0);
        fault("dial 12345", 1, 5);
        fault("dial 0 flat 1 12345;", 1, 14);
        fault("dial 0 flat " + "1".repeat(5), 1, 12);
        fault("dial 0 flat " + "9".repeat(288), 1, 12);
        fault("dial 0 less<12345;", 1, 12);
    }

    @Says(promise = 20, words = "NAMES (letters a to z, 6 at most)")
    static void namesAreLettersFromAToZ() {
        fault("diam 0 flat 1;", 1, 0);
        fault("dia 0 flat 1;", 1, 0);
        fault("diall 0 flat 1;", 1, 0);
        fault("xial 0 flat 1;", 1, 0);
        fault("diala 0 flat 1;", 1, 0);
        fault("dialz 0 flat 1;", 1, 0);
        fault("dial 0 zlat 1;", 1, 7);
        fault("dial 0 flatz 1;", 1, 7);
        fault("dial 0 lessa<1 1;", 1, 7);
        fault("abcdef", 1, 0);
        fault("abcdefg", 1, 0);
        fault("dial 0 flatabc 1;", 1, 7);
        fault("dial 0 rights 1;", 1, 7);
        fault("DIAL 0 flat 1;", 1, 0);
        fault("dial 0 fla` 1;", 1, 7);
        fault("dial 0 fla{ 1;", 1, 7);
        fault("dial 0 flat 1;{", 1, 14);
        fault("dialflat", 1, 0);
        fault("dial 0 flat 1;azaz", 1, 14);
    }

    @Says(promise = 20, words = "SIGNS ; <")
    static void otherSignsAreNone() {
        String others = ":=,.!#&'()*+-/>?@[]^_{|}~\"$%\\";
        for (int i = 0; i < others.length(); i++) {
            fault("dial 0 flat 1" + others.charAt(i), 1, 13);
            fault("dial 0 less " + others.charAt(i) + " 1 1;", 1, 12);
        }
        fault("dial 0 flat 1<", 1, 13);
        fault("dial 0 less ; 1 1;", 1, 12);
    }

    @Says(promise = 20, words = "bytes 32 and 10 ahead of, between, behind these, as many as wanted")
    static void blanksAreThirtyTwoAndTenAlone() {
        good("  \n dial \n\n 0  flat\n1 \n ; \n\n", 1);
        good("\ndial\n0\nless\n<\n1\n1\n;\n", 1);
        good("dial 0 flat 1;" + blanks(286), 1);
        good(blanks(286) + "dial 0 flat 1;", 1);
        int[] wrong = {0, 1, 8, 9, 11, 12, 13, 31, 33, 127, 128, 133, 138, 160, 255};
        for (int b : wrong) {
            fault("dial" + (char) b + "0 flat 1;", 1, 4);
            fault((char) b + "dial 0 flat 1;", 1, 0);
            fault("dial 0 flat 1;" + (char) b, 1, 14);
        }
    }

    @Says(promise = 20, words = "(none is needed where one ends without)")
    static void blanksAreNotNeededWhereATokenEnds() {
        good("dial0flat1;dial1right1;dial0less<1 1;", 3);
        good("dial 0less<0 1;", 1);
        fault("dial0less<11;", 1, 12);
        fault("dial0flat1;dialdial", 1, 11);
        fault("dial0flatright1;", 1, 5);
    }

    // ---- 20, the text

    @Says(promise = 20, words = "text: { 'dial' NUMBER ( 'flat' NUMBER | 'right' NUMBER | 'less' '<' NUMBER NUMBER ) ';' }")
    static void eachTokenStandsWhereItCan() {
        good("dial 0 flat 1;", 1);
        good("dial 0 right 1;", 1);
        good("dial 0 less < 1 1;", 1);
        String[] tokens = {"dial", "0", "flat", "right", "less", ";", "<"};
        String[] begun = {"", "dial ", "dial 0 ", "dial 0 flat ", "dial 0 flat 1 ", "dial 0 right ", "dial 0 right 1 ",
            "dial 0 less ", "dial 0 less < ", "dial 0 less < 1 ", "dial 0 less < 1 1 ", "dial 0 flat 1; "};
        String[] can = {"dial", "0", "flat right less", "0", ";", "0", ";", "<", "0", "0", ";", "dial"};
        for (int i = 0; i < begun.length; i++) {
            for (String token : tokens) {
                boolean stands = (" " + can[i] + " ").contains(" " + token + " ");
                String text = begun[i] + token + " ?";
                fault(text, 1, stands ? text.length() - 1 : begun[i].length());
            }
        }
    }

    @Says(promise = 20, words = "The tape, empty then, is read: how many contracts it told")
    static void anEmptyTextAndAFullOne() {
        TownClocks x = Towns.ofDials(2);
        Due.due("an empty tape", x.contracts(), 0);
        Due.due("blanks alone", Due.readText(x, blanks(300)), 0);
        Due.due("297 bytes", Due.feedText(x, "dial0flat1;".repeat(27)), 297);
        Due.due("27 contracts", x.contracts(), 27);
        Due.due("the tape is empty", x.count(7), 0);
        Due.due("read again, it is empty", x.contracts(), 0);
        Due.due("behind a fault", Due.readText(x, "dial 0 flat 1;dial"), -1000118);
        Due.due("the tape is empty behind a fault", x.count(7), 0);
        Due.due("read again, no fault", x.contracts(), 0);
        Due.due("in force is one", x.count(5), 1);
    }

    @Says(promise = 20, words = "they are in force from now on")
    static void contractsAreInForceFromNowOn() {
        TownClocks x = Towns.ofDials(2);
        Due.feedText(x, "dial 0 flat 3;");
        x.puff();
        owed("fed, but not read", x, 0, 0);
        Due.due("not in force", x.count(5), 0);
        x.contracts();
        owed("read, no puff since", x, 0, 0);
        Due.due("in force", x.count(5), 1);
        x.puff();
        owed("a puff since", x, 3, 0);
    }

    @Says(promise = 20, words = "-1000100 less the place of a FAULT")
    static void placesGoFromNoughtToThreeHundred() {
        fault("x", 1, 0);
        fault(" x", 1, 1);
        fault(blanks(299) + "x", 1, 299);
        fault(blanks(296) + "dial", 1, 300);
        fault(blanks(295) + "dial2", 2, 299);
    }

    @Says(promise = 20, words = "none of these is (those that are in force stay).")
    static void behindAFaultNoneOfTheseIsInForce() {
        TownClocks x = Towns.ofDials(3);
        Due.readText(x, "dial 0 flat 3;");
        x.puff();
        Due.due("a fault at the last token", Due.readText(x, "dial 0 flat 5;dial 1 flat 5;dial 2 flat 5"), -1000141);
        Due.due("one is in force", x.count(5), 1);
        owed("what was owed stays", x, 3, 0, 0);
        x.puff();
        owed("so does the contract", x, 6, 0, 0);
        Due.due("a fault of the second kind", Due.readText(x, "dial 0 flat 5;dial 3 flat 5;"), -1000119);
        x.puff();
        owed("behind that, too", x, 9, 0, 0);
        Due.due("a good text behind faults", Due.readText(x, "dial 2 flat 1;"), 1);
        x.puff();
        owed("it alone comes", x, 12, 0, 1);
    }

    // ---- 21

    @Says(promise = 21, words = "the end: how many bytes there are")
    static void theEndIsAFaultWithinAContract() {
        String whole = "dial 0 less < 1 1 ;";
        int[] ends = {4, 6, 11, 13, 15, 17};
        for (int end : ends) {
            fault(whole.substring(0, end), 1, end);
            fault(whole.substring(0, end) + " \n ", 1, end + 3);
        }
        good(whole, 1);
        good("", 0);
        fault(whole + "dial", 1, 23);
    }

    @Says(promise = 21, words = "1 it cannot stand there")
    static void whatCannotStandThereIsFaultOne() {
        fault("2", 1, 0);
        fault(";", 1, 0);
        fault("dial 0 2", 1, 7);
        fault("dial 0 dial 2", 1, 7);
        fault("dial 0 flat 1 2;", 1, 14);
        fault("dial 0 flat 1;;", 1, 14);
        fault("dial 0 flat 1;2", 1, 14);
        fault("dial 0 less 2", 1, 12);
        fault("dial 0 less<2;", 1, 13);
        good("dial 0 flat 2;", 1);
        good("dial 0 right 9999;dial 1 less<2 2;", 2);
    }

    @Says(promise = 21, words = "2 a DIAL that is not there.")
    static void aDialThatIsNotThere() {
        fault(new TownClocks(), "dial 0 flat 1;", 2, 5);
        good("dial 1 flat 1;", 1);
        fault("dial 2 flat 1;", 2, 5);
        fault("dial 9999 flat 1;", 2, 5);
        fault("dial\n\n 2", 2, 7);
        TownClocks x = Towns.fullOfDials();
        Due.due("the last", Due.readText(x, "dial 39 flat 1;dial 0039 flat 1;"), 2);
        fault(Towns.fullOfDials(), "dial 40 flat 1;", 2, 5);
        TownClocks y = Towns.ofDials(1);
        Due.feedText(y, "dial 1 flat 1;");
        y.dial(0, 1, 0);
        Due.due("it came while the text was on the tape", y.contracts(), 1);
    }

    @Says(promise = 21, words = "FAULTS, the first TOKEN that has one (its first byte)")
    static void theFirstTokenThatHasAFault() {
        fault("dial 2 flat 12345;", 2, 5);
        fault("dial 2 x", 2, 5);
        fault("dial 2", 2, 5);
        fault("x 2", 1, 0);
        fault("dial 0 x 1;dial 2 flat 1;", 1, 7);
        fault("dial 0 flat 1;dial 2 flat 1;x", 2, 19);
        fault("dial 12345 x", 1, 5);
        fault("dial 0   flatter 1;", 1, 9);
    }

    @Says(promise = 21, words = "The number of the latest FAULT; 0 before one.")
    static void theLatestFault() {
        TownClocks x = Towns.ofDials(1);
        Due.due("before one", x.fault(), 0);
        Due.readText(x, "dial 0 flat 1;");
        Due.due("behind a good text", x.fault(), 0);
        Due.feedText(x, "dial 1 flat 1;");
        Due.due("not read yet", x.fault(), 0);
        x.contracts();
        Due.due("2", x.fault(), 2);
        Due.readText(x, "dial 0 flat 1;");
        Due.due("it stays behind a good text", x.fault(), 2);
        x.contracts();
        Due.due("it stays behind an empty text", x.fault(), 2);
        Due.readText(x, "dial");
        Due.due("1", x.fault(), 1);
        Due.readText(x, "dial 1");
        Due.due("2 again", x.fault(), 2);
        Due.due("of a new object", new TownClocks().fault(), 0);
    }

    // ---- 22

    @Says(promise = 22, words = "What a DIAL owes by its contract; 0 without one. BAD.")
    static void owesIsOfADialThatIsThere() {
        TownClocks x = Towns.ofDials(40);
        Due.readText(x, "dial 39 flat 2;");
        x.puff();
        Due.due("the last", x.owes(39), 2);
        Due.due("without one", x.owes(38), 0);
        Due.due("the first", x.owes(0), 0);
        int[] wrong = {-1, 4, 40, NONE, LEAST, MOST};
        for (int dial : wrong) {
            Twins.refused("owes(" + dial + ")", Towns::busy, y -> y.owes(dial), BAD);
        }
        Twins.refused("none is there", TownClocks::new, y -> y.owes(0), BAD);
    }

    @Says(promise = 22, words = "a DIAL pays, for each puff since the contract came: flat: so much")
    static void flatIsForEachPuff() {
        TownClocks x = Towns.ofDials(2);
        x.puff();
        Due.readText(x, "dial 0 flat 9999;dial 1 flat 0;");
        owed("the puff ahead of it is not paid", x, 0, 0);
        x.puff();
        owed("moved on", x, 9999, 0);
        x.leak(0, 1);
        x.puff();
        owed("missed", x, 19998, 0);
        Due.puffs(x, 400);
        owed("dark", x, 402 * 9999, 0);
        x.right(0);
        x.put(0, 1);
        x.look(0);
        owed("hands and looks are not paid", x, 402 * 9999, 0);
    }

    @Says(promise = 22, words = "right: so much for each that it did not MISS")
    static void rightIsForEachThatItDidNotMiss() {
        TownClocks x = Towns.ofDials(1);
        Due.readText(x, "dial 0 right 9;");
        x.puff();
        owed("just its need", x, 9);
        x.leak(0, 1);
        x.puff();
        owed("one less", x, 9);
        x.leak(0, 0);
        x.puff();
        owed("late, but moved on", x, 18);
    }

    @Says(promise = 22, words = "less < a b: b for each behind which its LATE is below a.")
    static void lessIsByLateBehindThePuff() {
        TownClocks x = Towns.ofDials(3);
        Due.readText(x, "dial 0 less<0 5;dial 1 less<1 5;dial 2 less<2 5;");
        x.puff();
        owed("late 0", x, 0, 5, 5);
        x.leak(0, 1);
        x.puff();
        owed("late 1", x, 0, 5, 10);
        x.puff();
        owed("late 2", x, 0, 5, 10);
        x.leak(0, 0);
        for (int d = 0; d < 3; d++) {
            x.put(d, 3);
        }
        x.puff();
        owed("late -1", x, 5, 10, 15);
        x.leak(0, 1);
        x.puff();
        owed("late -1 ahead of the puff, 0 behind it", x, 5, 15, 20);
    }

    @Says(promise = 22, words = "One contract a DIAL: the latest (what it owed by an earlier one is gone).")
    static void theLatestContractOfADial() {
        TownClocks x = Towns.ofDials(2);
        Due.readText(x, "dial 0 flat 3;dial 1 flat 4;");
        x.puff();
        Due.readText(x, "dial 0 flat 5;");
        owed("what it owed is gone", x, 0, 4);
        Due.due("two are in force", x.count(5), 2);
        x.puff();
        owed("the latest", x, 5, 8);
        Due.readText(x, "dial 0 flat 5;");
        owed("gone by the same words, too", x, 0, 8);
        Due.due("two of one text", Due.readText(x, "dial 0 flat 6;dial 0 less<1 7;"), 2);
        x.puff();
        owed("the latest of one text", x, 7, 12);
        x.leak(0, 1);
        x.puff();
        owed("its terms alone", x, 7, 16);
        Due.due("two are in force still", x.count(5), 2);
    }
}
