/** Counts the answers that are not as due; each test of the project ends with end(). */
final class Due {
    private static int asked = 0;
    private static int wrong = 0;
    private static String about = "";

    private Due() {
    }

    /** What the answers that follow are about: told with each one that is not as due. */
    static void about(String what) {
        about = what.isEmpty() ? "" : what + ": ";
    }

    static void due(String call, long got, long want) {
        asked++;
        if (got != want) {
            wrong++;
            System.out.println(about + call + " answered " + got + ", due is " + want);
        }
    }

    static void holds(String what, boolean is) {
        asked++;
        if (!is) {
            wrong++;
            System.out.println(about + "does not hold: " + what);
        }
    }

    static boolean anyWrong() {
        return wrong != 0;
    }

    /** Feeds a text of bytes 0 to 255, eight at a time; what the last feed answered. */
    static int feedText(TownClocks x, String text) {
        int answer = x.count(7);
        for (int from = 0; from < text.length(); from += 8) {
            int to = Math.min(text.length(), from + 8);
            answer = x.feed(packed(text.substring(from, to)), to - from);
        }
        return answer;
    }

    /** Feeds a text and reads it. */
    static int readText(TownClocks x, String text) {
        feedText(x, text);
        return x.contracts();
    }

    static long packed(String upToEight) {
        long w = 0;
        for (int i = 0; i < upToEight.length(); i++) {
            w = (w << 8) | (upToEight.charAt(i) & 255);
        }
        return w;
    }

    static void puffs(TownClocks x, int n) {
        for (int i = 0; i < n; i++) {
            x.puff();
        }
    }

    static void end() {
        System.out.println(asked + " answers looked at, " + wrong + " not as due");
        if (wrong != 0) {
            System.exit(1);
        }
    }
}
