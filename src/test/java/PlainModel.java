import java.util.ArrayList;
import java.util.List;
import java.util.regex.Matcher;
import java.util.regex.Pattern;

/**
 * The document's words once more, worked out in the plainest way and unlike the class: it keeps all that happened to a
 * dial and plays it again for each answer, floors the air at each pipe, and tries every leak.
 */
final class PlainModel {
    static final int NONE = -1000000, BAD = -1000001, STATE = -1000002, FULL = -1000003, KIND = -1000004;

    private final List<int[]> pipes = new ArrayList<>();
    private final List<PlainDial> dials = new ArrayList<>();
    private final List<Integer> drifts = new ArrayList<>();
    private int drift = 0;
    private final List<Integer> sightings = new ArrayList<>();
    private int missedLatest = 0;
    private String tape = "";
    private int fault = 0;
    private List<Integer> trace = new ArrayList<>();

    /** What happens to a dial: what, and by how much. */
    private record Event(String what, int by) {
    }

    private static final class PlainDial {
        final int pipe;
        final int need;
        final int sort;
        final List<Event> events = new ArrayList<>();
        boolean marked = false;
        String terms = "";
        int below = 0;
        int pays = 0;
        int contractFrom = 0;

        PlainDial(int pipe, int need, int sort) {
            this.pipe = pipe;
            this.need = need;
            this.sort = sort;
        }

        int lateBehind(int n) {
            int late = 0;
            for (Event e : events.subList(0, n)) {
                switch (e.what()) {
                    case "missed" -> late++;
                    case "hand" -> late -= e.by();
                    case "right" -> late = 0;
                    default -> { }
                }
            }
            return late;
        }

        int late() {
            return lateBehind(events.size());
        }

        /** How many events there were when LATE was known last. */
        int knownFrom() {
            for (int i = events.size(); i > 0; i--) {
                String what = events.get(i - 1).what();
                if (what.equals("look") || what.equals("right")) {
                    return i;
                }
            }
            return 0;
        }

        int known(boolean upper) {
            int from = knownFrom();
            int end = lateBehind(from);
            for (Event e : events.subList(from, events.size())) {
                if (e.what().equals("hand")) {
                    end -= e.by();
                } else if (upper && !e.what().equals("look")) {
                    end++;
                }
            }
            return end;
        }

        int running() {
            int n = 0;
            for (int i = events.size() - 1; i >= 0; i--) {
                String what = events.get(i).what();
                if (what.equals("moved") || what.equals("right")) {
                    return n;
                }
                n += what.equals("missed") ? 1 : 0;
            }
            return n;
        }

        int owed() {
            int sum = 0;
            for (int i = contractFrom; i < events.size(); i++) {
                String what = events.get(i).what();
                if (!what.equals("moved") && !what.equals("missed")) {
                    continue;
                }
                boolean paid = terms.equals("flat") || terms.equals("right") && what.equals("moved")
                    || terms.equals("less") && lateBehind(i + 1) < below;
                sum += paid ? pays : 0;
            }
            return sum;
        }

        int kind() {
            return running() >= 10 ? 3 : sort;
        }
    }

    private boolean noPipe(int p) {
        return p < 0 || p >= pipes.size();
    }

    private boolean noDial(int d) {
        return d < 0 || d >= dials.size();
    }

    /** The air of a pipe, with the leaks that there are, or with one leak alone. */
    private int air(int pipe, boolean leaks, int leakAt, int l) {
        if (pipe == NONE) {
            return 100;
        }
        int[] p = pipes.get(pipe);
        int leak = leaks ? p[3] : pipe == leakAt ? l : 0;
        return Math.max(0, air(p[0], leaks, leakAt, l) - p[1] - leak);
    }

    private int lag(int pipe) {
        return pipe == NONE ? 0 : pipes.get(pipe)[2] + lag(pipes.get(pipe)[0]);
    }

    int pipe(int parent, int loss, int lag) {
        if (parent != NONE && noPipe(parent) || loss < 0 || loss > 50 || lag < 0 || lag > 20) {
            return BAD;
        }
        if (pipes.size() == 30) {
            return FULL;
        }
        pipes.add(new int[] {parent, loss, lag, 0});
        return pipes.size() - 1;
    }

    int leak(int pipe, int v) {
        if (noPipe(pipe) || v < 0 || v > 60) {
            return BAD;
        }
        int was = pipes.get(pipe)[3];
        pipes.get(pipe)[3] = v;
        return was;
    }

    int told(int pipe, int what) {
        if (noPipe(pipe) || what < 0 || what > 2) {
            return BAD;
        }
        return what == 0 ? air(pipe, true, NONE, 0) : what == 1 ? lag(pipe) : pipes.get(pipe)[3];
    }

    int dial(int pipe, int need, int sort) {
        if (noPipe(pipe) || need < 1 || need > 100 || sort < 0 || sort > 2) {
            return BAD;
        }
        if (dials.size() == 40) {
            return FULL;
        }
        dials.add(new PlainDial(pipe, need, sort));
        return dials.size() - 1;
    }

    int puff() {
        if (drifts.size() == 100000) {
            return STATE;
        }
        drifts.add(drift);
        missedLatest = 0;
        for (PlainDial d : dials) {
            boolean moved = air(d.pipe, true, NONE, 0) >= d.need;
            d.events.add(new Event(moved ? "moved" : "missed", 0));
            missedLatest += moved ? 0 : 1;
        }
        return missedLatest;
    }

    int drift(int v) {
        if (v < -5 || v > 5) {
            return BAD;
        }
        int was = drift;
        drift = v;
        return was;
    }

    private int latestSighting() {
        return sightings.isEmpty() ? 0 : sightings.get(sightings.size() - 1);
    }

    private long off() {
        return drifts.subList(latestSighting(), drifts.size()).stream().mapToLong(v -> v).sum();
    }

    long sight() {
        long found = off();
        sightings.add(drifts.size());
        return found;
    }

    long now(int what) {
        long since = drifts.size() - latestSighting();
        return switch (what) {
            case 0 -> drifts.size();
            case 1 -> off();
            case 2 -> -5 * since;
            case 3 -> 5 * since;
            case 4 -> sightings.size();
            default -> BAD;
        };
    }

    int look(int dial) {
        if (noDial(dial)) {
            return BAD;
        }
        dials.get(dial).events.add(new Event("look", 0));
        return dials.get(dial).late();
    }

    int state(int dial, int what) {
        if (noDial(dial)) {
            return BAD;
        }
        PlainDial d = dials.get(dial);
        return switch (what) {
            case 0 -> d.late();
            case 1 -> d.known(false);
            case 2 -> d.known(true);
            case 3 -> d.running();
            case 4 -> d.pipe;
            case 5 -> d.need;
            default -> BAD;
        };
    }

    int put(int dial, int m) {
        if (noDial(dial) || m < -60 || m > 60 || m == 0) {
            return BAD;
        }
        dials.get(dial).events.add(new Event("hand", m));
        return dials.get(dial).late();
    }

    int right(int dial) {
        if (noDial(dial)) {
            return BAD;
        }
        int was = dials.get(dial).late();
        dials.get(dial).events.add(new Event("right", 0));
        return was;
    }

    int round(int k) {
        if (k < 1 || k > 10) {
            return BAD;
        }
        List<PlainDial> order = new ArrayList<>(dials);
        order.sort((a, b) -> Math.abs(b.late()) - Math.abs(a.late()));
        int done = 0;
        for (PlainDial d : order) {
            if (done < k && d.late() != 0) {
                d.events.add(new Event("right", 0));
                done++;
            }
        }
        return done;
    }

    int ahead(int dial) {
        if (noDial(dial)) {
            return BAD;
        }
        int kind = dials.get(dial).kind();
        if (kind != 1 && kind != 2) {
            return KIND;
        }
        int set = 0;
        while (set < lag(dials.get(dial).pipe)) {
            set += 10;
        }
        return set;
    }

    int mark(int dial, int is) {
        if (noDial(dial) || is < 0 || is > 1) {
            return BAD;
        }
        dials.get(dial).marked = is == 1;
        return (int) dials.stream().filter(d -> d.marked).count();
    }

    /** With that one leak and no others. */
    boolean wouldMiss(int dial, int pipe, int l) {
        return air(dials.get(dial).pipe, false, pipe, l) < dials.get(dial).need;
    }

    private boolean explainsSet(int pipe, int l) {
        for (int d = 0; d < dials.size(); d++) {
            if (!wouldMiss(d, NONE, 0) && wouldMiss(d, pipe, l) != dials.get(d).marked) {
                return false;
            }
        }
        return true;
    }

    private List<int[]> explanations() {
        List<int[]> all = new ArrayList<>();
        for (int p = 0; p < pipes.size(); p++) {
            for (int l = 1; l <= 60; l++) {
                if (explainsSet(p, l)) {
                    all.add(new int[] {p, l});
                    break;
                }
            }
        }
        return all;
    }

    int explains(int i, int what) {
        if (what < 0 || what > 1) {
            return BAD;
        }
        List<int[]> all = explanations();
        return i < 0 || i >= all.size() ? NONE : all.get(i)[what];
    }

    int next() {
        List<int[]> all = explanations();
        int best = NONE;
        int most = -1;
        for (int d = 0; d < dials.size() && all.size() >= 2; d++) {
            int pairs = 0;
            for (int i = 0; i < all.size(); i++) {
                for (int j = i + 1; j < all.size(); j++) {
                    int one = air(dials.get(d).pipe, false, all.get(i)[0], all.get(i)[1]);
                    int other = air(dials.get(d).pipe, false, all.get(j)[0], all.get(j)[1]);
                    pairs += one != other ? 1 : 0;
                }
            }
            if (pairs > most) {
                most = pairs;
                best = d;
            }
        }
        return best;
    }

    int feed(long w, int n) {
        if (n < 1 || n > 8) {
            return BAD;
        }
        if (tape.length() + n > 300) {
            return FULL;
        }
        for (int i = n - 1; i >= 0; i--) {
            tape += (char) ((w >> (8 * i)) & 255);
        }
        return tape.length();
    }

    private static final Pattern TOKEN = Pattern.compile("[ \\n]*([a-z]+|[0-9]+|[^a-z0-9 \\n]|$)", Pattern.DOTALL);
    /** The tokens of a text that may still become a whole one, a sign each: d, f, r, l the words, n a number. */
    private static final Pattern BEGUN = Pattern.compile("(dn(fn|rn|l<nn);)*(d(n([fr]n?|l(<(n(n)?)?)?)?)?)?");

    int contracts() {
        String text = tape;
        tape = "";
        StringBuilder shape = new StringBuilder();
        List<Integer> numbers = new ArrayList<>();
        Matcher m = TOKEN.matcher(text);
        int place = 0;
        while (true) {
            // The pattern matches at any place, be it the end alone.
            m.region(place, text.length());
            m.lookingAt();
            String token = m.group(1);
            if (token.isEmpty()) {
                break;
            }
            shape.append(letterOf(token));
            if (!BEGUN.matcher(shape).matches()) {
                return faulty(1, m.start(1));
            }
            if (shape.charAt(shape.length() - 1) == 'n') {
                numbers.add(Integer.parseInt(token));
                if (shape.charAt(shape.length() - 2) == 'd' && Integer.parseInt(token) >= dials.size()) {
                    return faulty(2, m.start(1));
                }
            }
            place = m.end();
        }
        if (shape.length() > 0 && shape.charAt(shape.length() - 1) != ';') {
            return faulty(1, text.length());
        }
        return putInForce(shape, numbers);
    }

    private static char letterOf(String token) {
        return switch (token) {
            case "dial" -> 'd';
            case "flat" -> 'f';
            case "right" -> 'r';
            case "less" -> 'l';
            case ";" -> ';';
            case "<" -> '<';
            default -> token.matches("[0-9]{1,4}") ? 'n' : '?';
        };
    }

    private int faulty(int number, int place) {
        fault = number;
        return -1000100 - place;
    }

    private int putInForce(StringBuilder shape, List<Integer> numbers) {
        int told = 0;
        int n = 0;
        for (String one : shape.toString().split(";")) {
            if (one.isEmpty()) {
                continue;
            }
            PlainDial d = dials.get(numbers.get(n++));
            char terms = one.charAt(2);
            d.terms = terms == 'f' ? "flat" : terms == 'r' ? "right" : "less";
            d.below = terms == 'l' ? numbers.get(n++) : 0;
            d.pays = numbers.get(n++);
            d.contractFrom = d.events.size();
            told++;
        }
        return told;
    }

    int fault() {
        return fault;
    }

    int owes(int dial) {
        return noDial(dial) ? BAD : dials.get(dial).owed();
    }

    int kind(int dial) {
        return noDial(dial) ? BAD : dials.get(dial).kind();
    }

    private static boolean is(int told, int kind) {
        return switch (told) {
            case 1 -> kind == 0 || kind == 1;
            case 2 -> kind == 0 || kind == 1 || kind == 2;
            case 3 -> kind == 0 || kind == 3;
            default -> kind == 0;
        };
    }

    int as(int dial, int kind) {
        if (noDial(dial) || kind < 0 || kind > 3) {
            return BAD;
        }
        return is(dials.get(dial).kind(), kind) ? dials.get(dial).late() : KIND;
    }

    int ask(int dial, int what) {
        if (noDial(dial) || what < 0 || what > 1) {
            return BAD;
        }
        PlainDial d = dials.get(dial);
        int late = d.late();
        int kind = d.kind();
        int weight = kind == 0 ? late : kind == 1 ? late + 10 : kind == 2 ? 2 * (late + 10) : -late;
        List<Integer> ofWeight = kind == 0 ? List.of(10) : kind == 1 ? List.of(11, 10)
            : kind == 2 ? List.of(12, 11, 10) : List.of(13, 10);
        trace = new ArrayList<>();
        if (what == 0) {
            trace.addAll(ofWeight);
            return weight;
        }
        if (kind == 0 || kind == 3) {
            trace.addAll(kind == 0 ? List.of(20) : List.of(22, 20));
            return d.need + (kind == 0 ? 0 : 1000);
        }
        trace.addAll(List.of(21, 20));
        trace.addAll(ofWeight);
        return d.need + weight;
    }

    int trace(int i) {
        return i < 0 || i >= trace.size() ? NONE : trace.get(i);
    }

    int count(int what) {
        return switch (what) {
            case 0 -> pipes.size();
            case 1 -> dials.size();
            case 2 -> (int) dials.stream().filter(d -> is(d.kind(), 1)).count();
            case 3 -> (int) dials.stream().filter(d -> d.kind() == 3).count();
            case 4 -> missedLatest;
            case 5 -> (int) dials.stream().filter(d -> !d.terms.isEmpty()).count();
            case 6 -> dials.stream().mapToInt(d -> Math.abs(d.late())).sum();
            case 7 -> tape.length();
            default -> BAD;
        };
    }
}
