import java.util.ArrayList;
import java.util.Arrays;

/**
 * Town clocks by air: dials that a puff from one house moves on each minute, through pipes that branch, lag and leak.
 * What is refused is answered by BAD, STATE, FULL or KIND and changes nothing; no call throws.
 */
public final class TownClocks {
    public static final int NONE = -1000000, BAD = -1000001, STATE = -1000002, FULL = -1000003, KIND = -1000004;

    private static final int MOST_PIPES = 30, MOST_DIALS = 40, MOST_PUFFS = 100000;
    private static final int HOUSE_AIR = 100, MOST_LOSS = 50, MOST_LAG = 20, MOST_LEAK = 60, MOST_NEED = 100;
    private static final int MOST_DRIFT = 5, MOST_BY_HAND = 60, MOST_ROUND = 10, TENTHS_A_SECOND = 10;
    private static final int DIAL_KIND = 0, BELL_KIND = 1, TOWER_KIND = 2, DARK_KIND = 3, DARK_PUFFS = 10;
    private static final int NO_CONTRACT = 0, FLAT = 1, RIGHT = 2, LESS = 3;
    private static final int MOST_BYTES = 300, MOST_FED = 8, MOST_LETTERS = 6, MOST_FIGURES = 4;
    private static final int FAULT_STANDING = 1, FAULT_NO_DIAL = 2, FAULT_AT = -1000100;

    private final ArrayList<Pipe> pipes;
    private final ArrayList<Dial> dials;
    private final Master master;
    private final Explanations explanations;
    private final Reading reading;
    private final Tape tape;
    private final Trace bodies;
    private int missedLatest;

    public TownClocks() {
        pipes = new ArrayList<>();
        dials = new ArrayList<>();
        master = new Master();
        explanations = new Explanations();
        reading = new Reading();
        tape = reading.tape;
        bodies = new Trace();
    }

    // ---- pipes and dials

    public int pipe(int parent, int loss, int lag) {
        Pipe ahead = pipeAt(parent);
        if (ahead == null && parent != NONE) {
            return BAD;
        }
        if (!within(loss, 0, MOST_LOSS) || !within(lag, 0, MOST_LAG)) {
            return BAD;
        }
        int number = pipes.size();
        if (number >= MOST_PIPES) {
            return FULL;
        }
        pipes.add(new Pipe(number, ahead, loss, lag));
        return number;
    }

    public int leak(int pipe, int v) {
        Pipe p = pipeAt(pipe);
        if (p == null || !within(v, 0, MOST_LEAK)) {
            return BAD;
        }
        int was = p.leak;
        p.leak = v;
        return was;
    }

    public int told(int pipe, int what) {
        Pipe p = pipeAt(pipe);
        if (p == null) {
            return BAD;
        }
        switch (what) {
            case 0: return p.air();
            case 1: return p.lagInAll;
            case 2: return p.leak;
            default: return BAD;
        }
    }

    public int dial(int pipe, int need, int sort) {
        Pipe p = pipeAt(pipe);
        if (p == null || !within(need, 1, MOST_NEED) || !within(sort, DIAL_KIND, TOWER_KIND)) {
            return BAD;
        }
        int number = dials.size();
        if (number >= MOST_DIALS) {
            return FULL;
        }
        dials.add(new Dial(p, need, sort));
        return number;
    }

    // ---- minutes

    public int puff() {
        if (master.minute >= MOST_PUFFS) {
            return STATE;
        }
        master.tellMinute();
        int missed = 0;
        for (int i = 0; i < dials.size(); i++) {
            if (!dials.get(i).takePuff()) {
                missed++;
            }
        }
        missedLatest = missed;
        return missed;
    }

    public int drift(int v) {
        if (!within(v, -MOST_DRIFT, MOST_DRIFT)) {
            return BAD;
        }
        int was = master.drift;
        master.drift = v;
        return was;
    }

    public long sight() {
        return master.putRightByStars();
    }

    public long now(int what) {
        switch (what) {
            case 0: return master.minute;
            case 1: return master.off;
            case 2: return -MOST_DRIFT * master.minutesSinceSighting;
            case 3: return MOST_DRIFT * master.minutesSinceSighting;
            case 4: return master.sightings;
            default: return BAD;
        }
    }

    public int look(int dial) {
        Dial d = dialAt(dial);
        if (d == null) {
            return BAD;
        }
        d.becomeKnown();
        return d.late;
    }

    public int state(int dial, int what) {
        Dial d = dialAt(dial);
        if (d == null) {
            return BAD;
        }
        switch (what) {
            case 0: return d.late;
            case 1: return d.knownLeast;
            case 2: return d.knownLeast + d.puffsSinceKnown;
            case 3: return d.missedRunning;
            case 4: return d.pipe.number;
            case 5: return d.need;
            default: return BAD;
        }
    }

    public int put(int dial, int m) {
        Dial d = dialAt(dial);
        if (d == null || m == 0 || !within(m, -MOST_BY_HAND, MOST_BY_HAND)) {
            return BAD;
        }
        d.putOn(m);
        return d.late;
    }

    public int right(int dial) {
        Dial d = dialAt(dial);
        if (d == null) {
            return BAD;
        }
        int was = d.late;
        d.putRight();
        return was;
    }

    public int round(int k) {
        if (!within(k, 1, MOST_ROUND)) {
            return BAD;
        }
        int done = 0;
        while (done < k) {
            Dial worst = mostWrongDial();
            if (worst == null) {
                return done;
            }
            worst.putRight();
            done++;
        }
        return done;
    }

    public int ahead(int dial) {
        Dial d = dialAt(dial);
        if (d == null) {
            return BAD;
        }
        if (!isOfKind(d.toldKind(), BELL_KIND)) {
            return KIND;
        }
        int seconds = (d.pipe.lagInAll + TENTHS_A_SECOND - 1) / TENTHS_A_SECOND;
        return seconds * TENTHS_A_SECOND;
    }

    // ---- explaining

    public int mark(int dial, int is) {
        Dial d = dialAt(dial);
        if (d == null || !within(is, 0, 1)) {
            return BAD;
        }
        d.marked = is == 1;
        int marked = 0;
        for (int i = 0; i < dials.size(); i++) {
            if (dials.get(i).marked) {
                marked++;
            }
        }
        return marked;
    }

    public int explains(int i, int what) {
        if (!within(what, 0, 1)) {
            return BAD;
        }
        explanations.find(pipes, dials);
        if (!within(i, 0, explanations.found - 1)) {
            return NONE;
        }
        return what == 0 ? explanations.pipe[i] : explanations.leastLeak[i];
    }

    public int next() {
        explanations.find(pipes, dials);
        if (explanations.found < 2) {
            return NONE;
        }
        int best = NONE;
        int most = -1;
        for (int i = 0; i < dials.size(); i++) {
            int pairs = explanations.unlikePairs(dials.get(i).pipe);
            if (pairs > most) {
                most = pairs;
                best = i;
            }
        }
        return best;
    }

    // ---- contracts

    public int feed(long w, int n) {
        if (!within(n, 1, MOST_FED)) {
            return BAD;
        }
        if (tape.length + n > MOST_BYTES) {
            return FULL;
        }
        tape.append(w, n);
        return tape.length;
    }

    public int contracts() {
        boolean whole = reading.readTape(dials.size());
        tape.length = 0;
        if (!whole) {
            return FAULT_AT - reading.faultPlace;
        }
        reading.putInForce(dials);
        return reading.contractsTold;
    }

    public int fault() {
        return reading.latestFault;
    }

    public int owes(int dial) {
        Dial d = dialAt(dial);
        return d == null ? BAD : d.owed;
    }

    // ---- asked

    public int kind(int dial) {
        Dial d = dialAt(dial);
        return d == null ? BAD : d.toldKind();
    }

    public int as(int dial, int kind) {
        Dial d = dialAt(dial);
        if (d == null || !within(kind, DIAL_KIND, DARK_KIND)) {
            return BAD;
        }
        return isOfKind(d.toldKind(), kind) ? d.late : KIND;
    }

    public int ask(int dial, int what) {
        Dial d = dialAt(dial);
        if (d == null || !within(what, 0, 1)) {
            return BAD;
        }
        bodies.length = 0;
        return what == 0 ? weightOf(d) : markOf(d);
    }

    public int trace(int i) {
        return within(i, 0, bodies.length - 1) ? bodies.numbers[i] : NONE;
    }

    public int count(int what) {
        switch (what) {
            case 0: return pipes.size();
            case 1: return dials.size();
            case 2: return countOfKind(BELL_KIND);
            case 3: return countOfKind(DARK_KIND);
            case 4: return missedLatest;
            case 5: return countContracts();
            case 6: return allLates();
            case 7: return tape.length;
            default: return BAD;
        }
    }

    // ---- helpers of the calls

    private static boolean within(int v, int least, int most) {
        return v >= least && v <= most;
    }

    private Pipe pipeAt(int number) {
        return within(number, 0, pipes.size() - 1) ? pipes.get(number) : null;
    }

    private Dial dialAt(int number) {
        return within(number, 0, dials.size() - 1) ? dials.get(number) : null;
    }

    private static boolean isOfKind(int told, int kind) {
        // Every KIND is a DIAL, and a TOWER is a BELL; a DARK one is told as DARK alone, whatever its sort.
        return told == kind || kind == DIAL_KIND || (told == TOWER_KIND && kind == BELL_KIND);
    }

    /** The first of those with most LATE without sign; null where all are right. */
    private Dial mostWrongDial() {
        Dial worst = null;
        int most = 0;
        for (int i = 0; i < dials.size(); i++) {
            Dial d = dials.get(i);
            if (Math.abs(d.late) > most) {
                most = Math.abs(d.late);
                worst = d;
            }
        }
        return worst;
    }

    private int countOfKind(int kind) {
        int n = 0;
        for (int i = 0; i < dials.size(); i++) {
            if (isOfKind(dials.get(i).toldKind(), kind)) {
                n++;
            }
        }
        return n;
    }

    private int countContracts() {
        int n = 0;
        for (int i = 0; i < dials.size(); i++) {
            if (dials.get(i).terms != NO_CONTRACT) {
                n++;
            }
        }
        return n;
    }

    private int allLates() {
        int sum = 0;
        for (int i = 0; i < dials.size(); i++) {
            sum += Math.abs(dials.get(i).late);
        }
        return sum;
    }

    // ---- the bodies of the asks

    private int weightOf(Dial d) {
        switch (d.toldKind()) {
            case BELL_KIND: return body11(d);
            case TOWER_KIND: return body12(d);
            case DARK_KIND: return body13(d);
            default: return body10(d);
        }
    }

    private int body10(Dial d) {
        bodies.begin(10);
        return d.late;
    }

    private int body11(Dial d) {
        bodies.begin(11);
        return body10(d) + 10;
    }

    private int body12(Dial d) {
        bodies.begin(12);
        return 2 * body11(d);
    }

    private int body13(Dial d) {
        bodies.begin(13);
        return -body10(d);
    }

    private int markOf(Dial d) {
        switch (d.toldKind()) {
            case BELL_KIND:
            case TOWER_KIND: return body21(d);
            case DARK_KIND: return body22(d);
            default: return body20(d);
        }
    }

    private int body20(Dial d) {
        bodies.begin(20);
        return d.need;
    }

    private int body21(Dial d) {
        bodies.begin(21);
        return body20(d) + weightOf(d);
    }

    private int body22(Dial d) {
        bodies.begin(22);
        return body20(d) + 1000;
    }

    /** A pipe; the house itself is no Pipe, so the first ones have null ahead of them. */
    private static final class Pipe {
        final int number;
        final Pipe ahead;
        final int lossInAll;
        final int lagInAll;
        final int wayBits;
        int leak;

        Pipe(int number, Pipe ahead, int loss, int lag) {
            this.number = number;
            this.ahead = ahead;
            this.lossInAll = loss + (ahead == null ? 0 : ahead.lossInAll);
            this.lagInAll = lag + (ahead == null ? 0 : ahead.lagInAll);
            // A bit for each pipe on the way from the house to here: 30 of them fit.
            this.wayBits = (1 << number) | (ahead == null ? 0 : ahead.wayBits);
        }

        int air() {
            int leaks = 0;
            for (Pipe p = this; p != null; p = p.ahead) {
                leaks += p.leak;
            }
            return airBehindLeaks(leaks);
        }

        /** The air here if those leaks, added, were on the way, and no others. */
        int airBehindLeaks(int leaks) {
            // Nothing on the way adds air, so one floor at 0 at the end is the same as one at each pipe.
            return Math.max(0, HOUSE_AIR - lossInAll - leaks);
        }

        boolean isFedThrough(int pipe) {
            return (wayBits & (1 << pipe)) != 0;
        }
    }

    /** A dial, with what is known of it and what it owes. */
    private static final class Dial {
        final Pipe pipe;
        final int need;
        final int sort;
        int late;
        int knownLeast;
        int puffsSinceKnown;
        int missedRunning;
        boolean marked;
        int terms;
        int below;
        int pays;
        int owed;

        Dial(Pipe pipe, int need, int sort) {
            this.pipe = pipe;
            this.need = need;
            this.sort = sort;
        }

        /** Whether the puff moved it on. */
        boolean takePuff() {
            boolean moved = pipe.air() >= need;
            puffsSinceKnown++;
            if (moved) {
                missedRunning = 0;
            } else {
                late++;
                missedRunning++;
            }
            if (isPaidFor(moved)) {
                owed += pays;
            }
            return moved;
        }

        /** Of the puff that has just come. */
        private boolean isPaidFor(boolean moved) {
            switch (terms) {
                case FLAT: return true;
                case RIGHT: return moved;
                case LESS: return late < below;
                default: return false;
            }
        }

        void becomeKnown() {
            knownLeast = late;
            puffsSinceKnown = 0;
        }

        void putOn(int minutes) {
            late -= minutes;
            knownLeast -= minutes;
        }

        void putRight() {
            late = 0;
            missedRunning = 0;
            becomeKnown();
        }

        int toldKind() {
            return missedRunning >= DARK_PUFFS ? DARK_KIND : sort;
        }

        void begin(int newTerms, int newBelow, int newPays) {
            terms = newTerms;
            below = newBelow;
            pays = newPays;
            owed = 0;
        }
    }

    /** The clock in the house. */
    private static final class Master {
        int minute;
        int drift;
        long off;
        int sightings;
        long minutesSinceSighting;

        void tellMinute() {
            minute++;
            minutesSinceSighting++;
            off += drift;
        }

        long putRightByStars() {
            long found = off;
            off = 0;
            minutesSinceSighting = 0;
            sightings++;
            return found;
        }
    }

    /** The single leaks that explain the marked dials; its rows are used again by each search. */
    private static final class Explanations {
        final int[] pipe = new int[MOST_PIPES];
        final int[] leastLeak = new int[MOST_PIPES];
        final int[] likeAir = new int[HOUSE_AIR + 1];
        int found;

        void find(ArrayList<Pipe> pipes, ArrayList<Dial> dials) {
            found = 0;
            for (int p = 0; p < pipes.size() && p < MOST_PIPES; p++) {
                int l = leastLeakAt(p, dials);
                if (l != NONE) {
                    pipe[found] = p;
                    leastLeak[found] = l;
                    found++;
                }
            }
        }

        /** A dial with air to spare misses just if the leak takes more than that: each one bounds the leak. */
        private static int leastLeakAt(int pipe, ArrayList<Dial> dials) {
            int least = 1;
            int most = MOST_LEAK;
            for (int i = 0; i < dials.size(); i++) {
                Dial d = dials.get(i);
                int spare = d.pipe.airBehindLeaks(0) - d.need;
                if (spare < 0) {
                    continue;
                }
                boolean reached = d.pipe.isFedThrough(pipe);
                if (d.marked && !reached) {
                    return NONE;
                }
                if (d.marked) {
                    least = Math.max(least, spare + 1);
                } else if (reached) {
                    most = Math.min(most, spare);
                }
            }
            return least <= most ? least : NONE;
        }

        /** How many pairs of the explanations would make unlike air at a pipe. */
        int unlikePairs(Pipe at) {
            Arrays.fill(likeAir, 0);
            int unlike = 0;
            for (int e = 0; e < found; e++) {
                int air = at.airBehindLeaks(at.isFedThrough(pipe[e]) ? leastLeak[e] : 0);
                unlike += e - likeAir[air];
                likeAir[air]++;
            }
            return unlike;
        }
    }

    /** The bytes that were fed, and the token of them that is being read. */
    private static final class Tape {
        static final int END = 0, NAME = 1, NUMBER = 2, SIGN = 3, NO_TOKEN = 4;

        final byte[] bytes = new byte[MOST_BYTES];
        int length;
        int sort;
        int first;
        int behind;

        void append(long w, int n) {
            for (int i = n - 1; i >= 0 && length < MOST_BYTES; i--) {
                bytes[length] = (byte) (w >>> (8 * i));
                length++;
            }
        }

        void rewind() {
            behind = 0;
        }

        void readToken() {
            first = behind;
            while (first < length && isBlank(bytes[first])) {
                first++;
            }
            if (first >= length) {
                behind = first;
                sort = END;
            } else if (isLetter(bytes[first])) {
                behind = endOfLetters();
                sort = behind - first <= MOST_LETTERS ? NAME : NO_TOKEN;
            } else if (isFigure(bytes[first])) {
                behind = endOfFigures();
                sort = behind - first <= MOST_FIGURES ? NUMBER : NO_TOKEN;
            } else {
                behind = first + 1;
                sort = bytes[first] == ';' || bytes[first] == '<' ? SIGN : NO_TOKEN;
            }
        }

        private int endOfLetters() {
            int end = first;
            while (end < length && isLetter(bytes[end])) {
                end++;
            }
            return end;
        }

        private int endOfFigures() {
            int end = first;
            while (end < length && isFigure(bytes[end])) {
                end++;
            }
            return end;
        }

        boolean isName(String word) {
            if (sort != NAME || behind - first != word.length()) {
                return false;
            }
            for (int i = 0; i < word.length(); i++) {
                if (bytes[first + i] != word.charAt(i)) {
                    return false;
                }
            }
            return true;
        }

        boolean isSign(char sign) {
            return sort == SIGN && bytes[first] == sign;
        }

        /** Of a NUMBER alone: its few figures keep this far from overflow. */
        int numberValue() {
            int value = 0;
            for (int i = first; i < behind; i++) {
                value = 10 * value + bytes[i] - '0';
            }
            return value;
        }

        private static boolean isBlank(byte b) {
            return b == 32 || b == 10;
        }

        private static boolean isLetter(byte b) {
            return b >= 'a' && b <= 'z';
        }

        private static boolean isFigure(byte b) {
            return b >= '0' && b <= '9';
        }
    }

    /** Reads contracts from the tape; they wait in rows by dial, as none may be in force if a later token is at fault. */
    private static final class Reading {
        final Tape tape = new Tape();
        final int[] waitingTerms = new int[MOST_DIALS];
        final int[] waitingBelow = new int[MOST_DIALS];
        final int[] waitingPays = new int[MOST_DIALS];
        int contractsTold;
        int latestFault;
        int faultPlace;

        /** Whether all of it was read without a fault. */
        boolean readTape(int dialsThere) {
            Arrays.fill(waitingTerms, NO_CONTRACT);
            contractsTold = 0;
            tape.rewind();
            tape.readToken();
            while (tape.sort != Tape.END && contractsTold <= MOST_BYTES) {
                if (!readContract(dialsThere)) {
                    return false;
                }
                contractsTold++;
                tape.readToken();
            }
            return true;
        }

        /** The token that should be its 'dial' has been read. */
        private boolean readContract(int dialsThere) {
            if (!tape.isName("dial")) {
                return refuse(FAULT_STANDING);
            }
            if (!readNumber()) {
                return false;
            }
            int dial = tape.numberValue();
            if (dial >= dialsThere || dial >= MOST_DIALS) {
                return refuse(FAULT_NO_DIAL);
            }
            tape.readToken();
            int terms = namedTerms();
            if (terms == NO_CONTRACT) {
                return refuse(FAULT_STANDING);
            }
            int below = 0;
            if (terms == LESS) {
                if (!readSign('<') || !readNumber()) {
                    return false;
                }
                below = tape.numberValue();
            }
            if (!readNumber()) {
                return false;
            }
            int pays = tape.numberValue();
            if (!readSign(';')) {
                return false;
            }
            waitingTerms[dial] = terms;
            waitingBelow[dial] = below;
            waitingPays[dial] = pays;
            return true;
        }

        private int namedTerms() {
            if (tape.isName("flat")) {
                return FLAT;
            }
            if (tape.isName("right")) {
                return RIGHT;
            }
            return tape.isName("less") ? LESS : NO_CONTRACT;
        }

        private boolean readNumber() {
            tape.readToken();
            return tape.sort == Tape.NUMBER || refuse(FAULT_STANDING);
        }

        private boolean readSign(char sign) {
            tape.readToken();
            return tape.isSign(sign) || refuse(FAULT_STANDING);
        }

        /** Always false, so that a reader can end with it. */
        private boolean refuse(int fault) {
            latestFault = fault;
            faultPlace = tape.first;
            return false;
        }

        void putInForce(ArrayList<Dial> dials) {
            for (int i = 0; i < dials.size() && i < MOST_DIALS; i++) {
                if (waitingTerms[i] != NO_CONTRACT) {
                    dials.get(i).begin(waitingTerms[i], waitingBelow[i], waitingPays[i]);
                }
            }
        }
    }

    /** The numbers of the bodies that began within the latest ask. */
    private static final class Trace {
        static final int MOST = 16;

        final int[] numbers = new int[MOST];
        int length;

        void begin(int body) {
            if (length < MOST) {
                numbers[length] = body;
                length++;
            }
        }
    }
}
