/** Workers, their steps, and the breaks that come between: what ../shared/DOC.md promises. */
public final class TakenUp {
    private static final int LOW = -1000000000;
    private static final int BEYOND = 1;
    private static final int NONE = 2;
    private static final int STATE = 3;
    private static final int FULL = 4;
    private static final int KIND = 5;
    private static final int PARTED = 6;
    private static final int ERRORS = 6;

    private static final int MOST_WORKERS = 4;
    private static final int MOST_STEPS = 8;
    private static final int MOST_RESTS = 8;
    private static final int MOST_BYTES = 60;
    private static final int MOST_SHEETS = 4;
    private static final int MOST_NUMBERS = 24;
    private static final int MOST_WAITING = 24;
    private static final int MOST_BODIES = 30;

    private static final int MOST_LONG = 60;
    private static final int MOST_HARD = 9;
    private static final int MOST_DEPTH = 99;
    private static final int MOST_GOES = 99;
    private static final int MOST_AWAY = 999;
    private static final int MOST_DUE = 999;
    private static final int MOST_TAKES = 60;
    private static final int MOST_M = 9;
    private static final int MOST_TENTHS = 10;
    private static final int MOST_TOTAL = 99999;
    private static final int MOST_AHEAD = 600;
    private static final int MOST_TRIED = 120;
    private static final int MOST_CHANCES = 6;
    private static final int MOST_OFF = 1000;
    private static final int LAST_MINUTE = 9999;

    private static final int BREAK = 0;
    private static final int ASKED = 1;
    private static final int SELF = 2;
    private static final int DUE = 3;
    private static final int DEEP = 4;
    private static final int SEAMED = 5;
    private static final int TOLD = 6;
    private static final int KINDS = 7;
    private static final int[] KIND_ABOVE = {-1, BREAK, BREAK, BREAK, ASKED, SELF, BREAK};

    private static final int BREAKS = 0;
    private static final int ASKS = 1;
    private static final int HOLDS = 2;
    private static final int PARTS = 3;
    private static final int VOICES = 4;
    // A row a KIND, a number a VOICE; 0 where the KIND has no BODY of its own.
    private static final int[] BODIES = {
        10, 11, 12, 13,
        20, 0, 0, 21,
        0, 30, 0, 0,
        0, 0, 40, 0,
        50, 0, 51, 0,
        0, 60, 0, 0,
        70, 71, 0, 0
    };
    // No VOICE goes through more than 6 BODIES at once; the guard stands well above.
    private static final int DEEPEST_VOICE = 20;

    private static final int LEAVES = 0;
    private static final int GOES = 1;
    private static final int USES = 2;
    private static final String LEAVES_NAMES = "dtnm";
    private static final String GOES_NAMES = "dhl";
    private static final int MOST_OPEN = 5;
    private static final int MOST_DIGITS = 4;
    // A mark of a law below SIGNS is a number, from NAMES on a name, between them a sign.
    private static final int SIGNS = 10000;
    private static final int NAMES = 20000;

    private static final int ALL_WORKERS = -1;

    private final World now = new World();
    // All that lies AHEAD is worked out here, so that no call makes a new world.
    private final World trial = new World();
    private final World kept = new World();
    private final Reader reader = new Reader();
    private final Speaker speaker = new Speaker();
    private final Sheet[] sheets = new Sheet[MOST_SHEETS];
    private final int[] errors = new int[ERRORS + 1];
    private int images;

    public TakenUp() {
        for (int i = 0; i < sheets.length; i++) {
            sheets[i] = new Sheet();
        }
    }

    // ---- workers, breaks

    public int worker(int note) {
        if (!within(note, 0, 1)) {
            return error(BEYOND);
        }
        if (now.workerCount >= MOST_WORKERS) {
            return error(FULL);
        }
        now.workers[now.workerCount].begin(note);
        now.workerCount++;
        return now.workerCount - 1;
    }

    public int workerIs(int worker, int what) {
        if (!now.hasWorker(worker) || !within(what, 0, 7)) {
            return error(BEYOND);
        }
        return now.workers[worker].value(what);
    }

    public int setWorker(int worker, int what, int v) {
        if (!now.hasWorker(worker) || !mayBeOfWorker(what, v)) {
            return error(BEYOND);
        }
        Worker w = now.workers[worker];
        int was = w.value(what);
        if (what == 0) {
            w.depth = v;
        } else if (what == 4) {
            w.away = v;
        } else {
            w.note = v;
        }
        return was;
    }

    public int step(int worker, int takes, int hard) {
        if (!now.hasWorker(worker) || !mayBeStep(takes, hard)) {
            return error(BEYOND);
        }
        Worker w = now.workers[worker];
        if (w.stepCount >= MOST_STEPS) {
            return error(FULL);
        }
        w.addStep(takes, hard);
        return w.stepCount;
    }

    public int stepIs(int worker, int step, int what) {
        if (!now.hasWorker(worker) || !within(what, 0, 1)) {
            return error(BEYOND);
        }
        Worker w = now.workers[worker];
        if (!within(step, 0, w.stepCount - 1)) {
            return error(BEYOND);
        }
        return what == 0 ? w.longs[step] : w.hards[step];
    }

    public int rest(int km, int worker, int due, int takes) {
        if (!within(km, 0, KINDS * 10 - 1) || !now.hasWorker(worker)) {
            return error(BEYOND);
        }
        if (!within(due, 0, MOST_DUE) || !within(takes, 1, MOST_TAKES)) {
            return error(BEYOND);
        }
        if (now.restCount >= MOST_RESTS) {
            return error(FULL);
        }
        now.rests[now.restCount].begin(km, worker, due, takes);
        now.restCount++;
        return now.restCount - 1;
    }

    public int restIs(int rest, int what) {
        if (!now.hasRest(rest) || !within(what, 0, 7)) {
            return error(BEYOND);
        }
        Rest r = now.rests[rest];
        return what == 7 ? now.keeps(r) : r.value(what);
    }

    public int as(int rest, int kind) {
        if (!now.hasRest(rest) || !within(kind, 0, KINDS - 1)) {
            return error(BEYOND);
        }
        Rest r = now.rests[rest];
        return isUnder(r.kind, kind) ? r.takes : error(KIND);
    }

    public int setRest(int rest, int what, int v) {
        if (!now.hasRest(rest) || !mayBeOfRest(what, v)) {
            return error(BEYOND);
        }
        Rest r = now.rests[rest];
        int was = r.value(what);
        r.set(what, v);
        return was;
    }

    public int quiet(int what, int v) {
        if (!within(what, 0, 1) || !within(v, 0, MOST_DUE)) {
            return error(BEYOND);
        }
        int was = what == 0 ? now.from : now.to;
        if (what == 0) {
            now.from = v;
        } else {
            now.to = v;
        }
        return was;
    }

    // ---- texts

    public int feed(long word, int n) {
        if (!within(n, 1, 8)) {
            return error(BEYOND);
        }
        if (now.tapeLength + n > MOST_BYTES) {
            return error(FULL);
        }
        for (int i = 0; i < n; i++) {
            now.tape[now.tapeLength] = (int) (word >>> (8 * i)) & 255;
            now.tapeLength++;
        }
        return now.tapeLength;
    }

    public int text(int use) {
        if (!within(use, 0, USES - 1)) {
            return error(BEYOND);
        }
        int fault = reader.read(now.tape, now.tapeLength, use == LEAVES ? LEAVES_NAMES : GOES_NAMES);
        now.tapeLength = 0;
        if (fault >= 0) {
            return -10 - fault;
        }
        now.laws[use].take(reader.code, reader.size);
        return 1;
    }

    public int untell(int use) {
        if (!within(use, 0, USES - 1)) {
            return error(BEYOND);
        }
        Law law = now.laws[use];
        int was = law.isTold ? 1 : 0;
        law.isTold = false;
        return was;
    }

    // ---- minutes

    public int minutes(int n) {
        return goBy(n, false);
    }

    public int loose(int n) {
        return goBy(n, true);
    }

    public int seed(int v) {
        int was = now.z;
        now.z = v;
        return was;
    }

    // ---- ahead

    public int then(int n, int worker, int what) {
        if (!within(n, 0, MOST_AHEAD) || !now.hasWorker(worker) || !within(what, 0, 7)) {
            return error(BEYOND);
        }
        trial.takeOver(now);
        trial.goAhead(n, worker);
        return trial.workers[worker].value(what);
    }

    public int waits(int n) {
        if (!within(n, 0, MOST_AHEAD)) {
            return error(BEYOND);
        }
        trial.takeOver(now);
        trial.goAhead(n, ALL_WORKERS);
        return trial.waited;
    }

    public int cost(int rest, int n) {
        if (!now.hasRest(rest) || !within(n, 0, MOST_AHEAD)) {
            return error(BEYOND);
        }
        if (now.rests[rest].came == 1) {
            return error(STATE);
        }
        int worker = now.rests[rest].worker;
        int with = ahead().end(worker, n);
        int without = aheadWithout(rest).end(worker, n);
        if (with < 0 || without < 0) {
            return error(NONE);
        }
        return with - without;
    }

    public int refuse(int worker, int n) {
        if (!now.hasWorker(worker) || !within(n, 0, MOST_AHEAD)) {
            return error(BEYOND);
        }
        int least = -1;
        int soonest = -1;
        for (int i = 0; i < now.restCount; i++) {
            if (now.rests[i].isAheadOf(worker)) {
                int end = aheadWithout(i).end(worker, n);
                if (isSooner(end, soonest)) {
                    soonest = end;
                    least = i;
                }
            }
        }
        return least < 0 ? error(NONE) : least;
    }

    public int best(int rest, int n) {
        if (!now.hasRest(rest) || !within(n, 1, MOST_TRIED)) {
            return error(BEYOND);
        }
        if (now.rests[rest].came == 1) {
            return error(STATE);
        }
        int first = -1;
        int soonest = -1;
        for (int i = 0; i < n; i++) {
            trial.takeOver(now);
            trial.rests[rest].when = now.minute + i;
            int end = trial.end(now.rests[rest].worker, MOST_AHEAD);
            if (isSooner(end, soonest)) {
                soonest = end;
                first = now.minute + i;
            }
        }
        return first < 0 ? error(NONE) : first;
    }

    public int heap(int h) {
        if (!within(h, 0, MOST_DUE)) {
            return error(BEYOND);
        }
        trial.takeOver(now);
        trial.goAhead(MOST_AHEAD, ALL_WORKERS);
        int waited = trial.waited;
        trial.takeOver(now);
        for (int i = 0; i < trial.restCount; i++) {
            Rest r = trial.rests[i];
            if (r.came == 0 && r.isAsked()) {
                r.when = Math.max(r.when, h);
            }
        }
        trial.goAhead(MOST_AHEAD, ALL_WORKERS);
        return trial.waited - waited;
    }

    public long odds(int worker, int n, int t, int part) {
        if (!now.hasWorker(worker) || !within(n, 0, MOST_AHEAD)) {
            return error(BEYOND);
        }
        if (!within(t, 0, LAST_MINUTE) || !within(part, 0, 1)) {
            return error(BEYOND);
        }
        if (now.countAhead(ALL_WORKERS) > MOST_CHANCES) {
            return error(STATE);
        }
        // The BREAKS of others change neither END nor the fraction in lowest terms.
        int chances = now.countAhead(worker);
        long above = 0;
        for (int chosen = 0; chosen < 1 << chances; chosen++) {
            trial.takeOver(now);
            long weight = trial.choose(worker, chosen);
            if (weight > 0) {
                int end = trial.end(worker, n);
                above += end >= 0 && end <= t ? weight : 0;
            }
        }
        return lowestTerms(above, chances, part);
    }

    // ---- voices, sheets, images, what is told

    public int voice(int rest, int voice, int x) {
        if (!now.hasRest(rest) || !within(voice, 0, VOICES - 1)) {
            return error(BEYOND);
        }
        Rest r = now.rests[rest];
        int answer = speaker.speak(r.kind, r.m, rest, voice, x);
        return speaker.isParted ? error(PARTED) : answer;
    }

    public int body(int i) {
        return within(i, 0, speaker.traced - 1) ? speaker.trace[i] : error(NONE);
    }

    public int sheet(int sheet, int bits, int n) {
        if (!hasSheet(sheet) || bits != 0 && bits != 8 && bits != 16 && bits != 32) {
            return error(BEYOND);
        }
        if (bits != 0 && n < 0) {
            return error(STATE);
        }
        if (bits != 0 && n > MOST_NUMBERS) {
            return error(BEYOND);
        }
        sheets[sheet].begin(bits, bits == 0 ? 0 : n);
        return 1;
    }

    public int put(int sheet, int i, int v) {
        if (!hasSheet(sheet)) {
            return error(BEYOND);
        }
        Sheet s = sheets[sheet];
        if (s.isMissing()) {
            return error(NONE);
        }
        if (!within(i, 0, s.size - 1)) {
            return error(BEYOND);
        }
        s.set(i, v);
        return 1;
    }

    public int move(int sheet, int i, int other, int j, int n) {
        if (!hasSheet(sheet) || !hasSheet(other)) {
            return error(BEYOND);
        }
        Sheet source = sheets[sheet];
        Sheet target = sheets[other];
        if (source.isMissing() || target.isMissing()) {
            return error(NONE);
        }
        if (source.bits != target.bits) {
            return error(KIND);
        }
        if (!source.hasRow(i, n) || !target.hasRow(j, n)) {
            return error(BEYOND);
        }
        System.arraycopy(source.numbers, i, target.numbers, j, n);
        return n;
    }

    public int steps(int sheet, int worker) {
        if (!hasSheet(sheet) || !now.hasWorker(worker)) {
            return error(BEYOND);
        }
        Sheet s = sheets[sheet];
        if (s.isMissing()) {
            return error(NONE);
        }
        Worker w = now.workers[worker];
        int came = 0;
        for (int i = 0; i + 1 < s.size; i += 2) {
            if (w.stepCount >= MOST_STEPS || !mayBeStep(s.numbers[i], s.numbers[i + 1])) {
                break;
            }
            w.addStep(s.numbers[i], s.numbers[i + 1]);
            came++;
        }
        return came;
    }

    public int off(int sheet, int worker) {
        if (!hasSheet(sheet) || !now.hasWorker(worker)) {
            return error(BEYOND);
        }
        if (sheets[sheet].isMissing()) {
            return error(NONE);
        }
        trial.takeOver(now);
        return trial.offBy(sheets[sheet], worker);
    }

    public int fits(int sheet, int rest) {
        if (!hasSheet(sheet) || !now.hasRest(rest)) {
            return error(BEYOND);
        }
        if (sheets[sheet].isMissing()) {
            return error(NONE);
        }
        int least = -1;
        int fitting = 0;
        for (int m = 0; m <= MOST_M; m++) {
            trial.takeOver(now);
            trial.rests[rest].m = m;
            int off = trial.offBy(sheets[sheet], now.rests[rest].worker);
            if (isSooner(off, least)) {
                least = off;
                fitting = m;
            }
        }
        return fitting;
    }

    public int image() {
        kept.takeOver(now);
        images++;
        return images;
    }

    public int restore() {
        if (images == 0) {
            return error(NONE);
        }
        now.takeOver(kept);
        return now.minute;
    }

    public int tell(int v) {
        if (now.waitingCount >= MOST_WAITING) {
            return error(FULL);
        }
        now.waiting[now.waitingCount] = v;
        now.waitingCount++;
        return now.waitingCount;
    }

    public int check() {
        int told = now.waitingCount;
        now.waitingCount = 0;
        trial.takeOver(now);
        trial.goAhead(MOST_AHEAD, ALL_WORKERS);
        int both = Math.min(told, now.workerCount);
        for (int i = 0; i < both; i++) {
            if (now.waiting[i] != trial.workers[i].ends) {
                return 1 + i;
            }
        }
        return told == now.workerCount ? 0 : 1 + both;
    }

    public int count(int what) {
        switch (what) {
            case 0: return now.workerCount;
            case 1: return now.restCount;
            case 2: return now.countAhead(ALL_WORKERS);
            case 3: return now.minute;
            case 4: return now.waited;
            case 5: return now.from;
            case 6: return now.to;
            case 7: return now.tapeLength;
            case 8: return now.waitingCount;
            case 9: return speaker.traced;
            case 10: return now.z;
            default: return error(BEYOND);
        }
    }

    public int told(int k) {
        return within(k, 1, ERRORS) ? errors[k] : error(BEYOND);
    }

    // ---- what several of them use

    private int error(int k) {
        if (within(k, 1, ERRORS)) {
            errors[k]++;
        }
        return LOW - k;
    }

    private int goBy(int n, boolean isLoose) {
        if (!within(n, 1, MOST_AHEAD)) {
            return error(BEYOND);
        }
        if (now.minute + n > LAST_MINUTE) {
            return error(STATE);
        }
        for (int i = 0; i < n; i++) {
            if (isLoose) {
                now.wander();
            }
            now.passMinute(ALL_WORKERS);
        }
        return now.minute;
    }

    private World ahead() {
        trial.takeOver(now);
        return trial;
    }

    private World aheadWithout(int rest) {
        trial.takeOver(now);
        trial.rests[rest].came = 1;
        return trial;
    }

    private boolean hasSheet(int sheet) {
        return within(sheet, 0, MOST_SHEETS - 1);
    }

    private static boolean within(int v, int least, int most) {
        return v >= least && v <= most;
    }

    private static int hold(int v, int least, int most) {
        return Math.max(least, Math.min(most, v));
    }

    private static int quotient(int a, int b) {
        return b == 0 ? 0 : a / b;
    }

    /** Whether v comes ahead of what was found so far, where a number below 0 is none. */
    private static boolean isSooner(int v, int found) {
        return v >= 0 && (found < 0 || v < found);
    }

    private static boolean isUnder(int kind, int other) {
        int at = kind;
        for (int i = 0; i < KINDS && at != other && within(at, 0, KINDS - 1); i++) {
            at = KIND_ABOVE[at];
        }
        return at == other;
    }

    private static boolean mayBeStep(int takes, int hard) {
        return within(takes, 1, MOST_LONG) && within(hard, 0, MOST_HARD);
    }

    private static boolean mayBeOfWorker(int what, int v) {
        switch (what) {
            case 0: return within(v, 0, MOST_DEPTH);
            case 4: return within(v, 0, MOST_AWAY);
            case 5: return within(v, 0, 1);
            default: return false;
        }
    }

    private static boolean mayBeOfRest(int what, int v) {
        switch (what) {
            case 0: return within(v, 0, KINDS - 1);
            case 1: return within(v, 0, MOST_M);
            case 3: return within(v, 0, MOST_DUE);
            case 4: return within(v, 1, MOST_TAKES);
            case 5: return within(v, 0, MOST_TENTHS);
            default: return false;
        }
    }

    /** A part of above / 10^power, from which the only factors that can be shared, 2 and 5, are gone. */
    private static long lowestTerms(long above, int power, int part) {
        long top = above;
        long below = 1;
        for (int i = 0; i < power; i++) {
            below *= 10;
        }
        for (int i = 0; i < power; i++) {
            if (top % 2 == 0 && below % 2 == 0) {
                top /= 2;
                below /= 2;
            }
            if (top % 5 == 0 && below % 5 == 0) {
                top /= 5;
                below /= 5;
            }
        }
        return part == 0 ? top : below;
    }

    private static final class Worker {
        private final int[] longs = new int[MOST_STEPS];
        private final int[] hards = new int[MOST_STEPS];
        private int depth;
        private int stepCount;
        private int at;
        private int done;
        private int away;
        private int note;
        private int lost;
        private int ends = -1;

        private void begin(int leavesNote) {
            depth = 0;
            stepCount = 0;
            at = 0;
            done = 0;
            away = 0;
            note = leavesNote;
            lost = 0;
            ends = -1;
        }

        private void takeOver(Worker w) {
            depth = w.depth;
            stepCount = w.stepCount;
            at = w.at;
            done = w.done;
            away = w.away;
            note = w.note;
            lost = w.lost;
            ends = w.ends;
            System.arraycopy(w.longs, 0, longs, 0, MOST_STEPS);
            System.arraycopy(w.hards, 0, hards, 0, MOST_STEPS);
        }

        private int value(int what) {
            switch (what) {
                case 0: return depth;
                case 1: return stepCount;
                case 2: return at;
                case 3: return done;
                case 4: return away;
                case 5: return note;
                case 6: return lost;
                default: return ends;
            }
        }

        private void addStep(int takes, int hard) {
            if (stepCount < MOST_STEPS) {
                longs[stepCount] = takes;
                hards[stepCount] = hard;
                stepCount++;
                ends = -1;
            }
        }

        private boolean isAtStep() {
            return at >= 0 && at < stepCount && at < MOST_STEPS;
        }

        private void leave(int left, int minutes) {
            lost = Math.min(MOST_TOTAL, lost + depth - left);
            depth = left;
            away = minutes;
        }

        private void work(int goes, int minute) {
            done += goes;
            depth = Math.min(MOST_DEPTH, depth + 1);
            if (isAtStep() && done >= longs[at] * 10) {
                at++;
                done = 0;
                if (at == stepCount) {
                    ends = minute;
                }
            }
        }
    }

    private static final class Rest {
        private int kind;
        private int m;
        private int worker;
        private int due;
        // The MINUTE in which it comes: due as told, or till when it was PUT OFF.
        private int when;
        private int takes;
        private int tenths;
        private int came;

        private void begin(int km, int ofWorker, int inMinute, int takesMinutes) {
            kind = km / 10;
            m = km % 10;
            worker = ofWorker;
            due = inMinute;
            when = inMinute;
            takes = takesMinutes;
            tenths = MOST_TENTHS;
            came = 0;
        }

        private void takeOver(Rest r) {
            kind = r.kind;
            m = r.m;
            worker = r.worker;
            due = r.due;
            when = r.when;
            takes = r.takes;
            tenths = r.tenths;
            came = r.came;
        }

        private int value(int what) {
            switch (what) {
                case 0: return kind;
                case 1: return m;
                case 2: return worker;
                case 3: return due;
                case 4: return takes;
                case 5: return tenths;
                default: return came;
            }
        }

        private void set(int what, int v) {
            switch (what) {
                case 0: kind = v; break;
                case 1: m = v; break;
                case 3: due = v; when = v; break;
                case 4: takes = v; break;
                case 5: tenths = v; break;
                default: break;
            }
        }

        private boolean isAsked() {
            return kind == ASKED || kind == DEEP;
        }

        private boolean isAheadOf(int someWorker) {
            return came == 0 && (someWorker == ALL_WORKERS || worker == someWorker);
        }
    }

    /** A TEXT that was read: marks in the order in which they are worked out. */
    private static final class Law {
        private final int[] code = new int[MOST_BYTES];
        private final int[] stack = new int[MOST_BYTES];
        private int size;
        private boolean isTold;

        private void take(int[] marks, int n) {
            size = Math.min(n, MOST_BYTES);
            System.arraycopy(marks, 0, code, 0, size);
            isTold = true;
        }

        private void takeOver(Law law) {
            size = law.size;
            System.arraycopy(law.code, 0, code, 0, size);
            isTold = law.isTold;
        }

        private int workOut(int first, int second, int third, int fourth) {
            int top = 0;
            for (int i = 0; i < size && i < code.length; i++) {
                int mark = code[i];
                if (mark == SIGNS + '!') {
                    if (top >= 1) {
                        stack[top - 1] = stack[top - 1] == 0 ? 1 : 0;
                    }
                } else if (mark >= SIGNS && mark < NAMES) {
                    if (top >= 2) {
                        top--;
                        stack[top - 1] = join(mark - SIGNS, stack[top - 1], stack[top]);
                    }
                } else if (top < stack.length) {
                    stack[top] = mark < SIGNS ? mark : named(mark - NAMES, first, second, third, fourth);
                    top++;
                }
            }
            return top >= 1 ? stack[0] : 0;
        }

        private static int named(int name, int first, int second, int third, int fourth) {
            switch (name) {
                case 0: return first;
                case 1: return second;
                case 2: return third;
                default: return fourth;
            }
        }

        private static int join(int sign, int a, int b) {
            switch (sign) {
                case '|': return a != 0 || b != 0 ? 1 : 0;
                case '&': return a != 0 && b != 0 ? 1 : 0;
                case '<': return a < b ? 1 : 0;
                case '=': return a == b ? 1 : 0;
                case '>': return a > b ? 1 : 0;
                case '+': return a + b;
                case '-': return a - b;
                case '*': return a * b;
                case '/': return b == 0 ? 0 : a / b;
                default: return b == 0 ? 0 : a % b;
            }
        }
    }

    /** Reads a TEXT byte by byte; what it has read stays in code until the next one. */
    private static final class Reader {
        private static final int COMPARED = 3;
        private static final int NOT = 6;

        private final int[] code = new int[MOST_BYTES];
        // Signs that wait for what stands right of them, and the ( that wait for their ).
        private final int[] pending = new int[MOST_BYTES];
        private int size;
        private int pendingCount;
        private int open;
        private int digits;
        private boolean wantsValue;

        /** The FAULT, or -1 if all of it is a TEXT. */
        private int read(int[] tape, int length, String names) {
            size = 0;
            pendingCount = 0;
            open = 0;
            digits = 0;
            wantsValue = true;
            for (int i = 0; i < length && i < tape.length; i++) {
                if (!takes(tape[i], names)) {
                    return i;
                }
            }
            if (wantsValue) {
                return length;
            }
            closeFrom(1);
            return pendingCount > 0 ? length : -1;
        }

        /** Whether some TEXT goes on with this byte; if so, it is taken. */
        private boolean takes(int sign, String names) {
            if (sign >= '0' && sign <= '9') {
                return takesDigit(sign - '0');
            }
            digits = 0;
            if (!wantsValue) {
                return sign == ')' ? takesClosing() : takesSign(sign);
            }
            if (sign == '!' || sign == '(') {
                return takesOpening(sign);
            }
            int name = names.indexOf((char) sign);
            if (name < 0) {
                return false;
            }
            emit(NAMES + name);
            wantsValue = false;
            return true;
        }

        private boolean takesDigit(int digit) {
            if (wantsValue) {
                emit(digit);
                digits = 1;
                wantsValue = false;
                return true;
            }
            if (digits == 0 || digits == MOST_DIGITS || size == 0) {
                return false;
            }
            code[size - 1] = code[size - 1] * 10 + digit;
            digits++;
            return true;
        }

        private boolean takesOpening(int sign) {
            if (open == MOST_OPEN) {
                return false;
            }
            open++;
            push(sign);
            return true;
        }

        private boolean takesClosing() {
            closeFrom(1);
            if (pendingCount == 0) {
                return false;
            }
            pendingCount--;
            open--;
            return true;
        }

        private boolean takesSign(int sign) {
            int level = levelOf(sign);
            if (level == 0 || level == NOT) {
                return false;
            }
            // Signs of one level go from the left, but two comparisons never stand side by side.
            closeFrom(level == COMPARED ? COMPARED + 1 : level);
            if (level == COMPARED && pendingLevel() == COMPARED) {
                return false;
            }
            push(sign);
            wantsValue = true;
            return true;
        }

        private void closeFrom(int level) {
            while (pendingCount > 0 && pendingLevel() >= level) {
                pendingCount--;
                emit(SIGNS + pending[pendingCount]);
                if (pending[pendingCount] == '!') {
                    open--;
                }
            }
        }

        private int pendingLevel() {
            return pendingCount > 0 ? levelOf(pending[pendingCount - 1]) : 0;
        }

        private void push(int sign) {
            if (pendingCount < pending.length) {
                pending[pendingCount] = sign;
                pendingCount++;
            }
        }

        private void emit(int mark) {
            if (size < code.length) {
                code[size] = mark;
                size++;
            }
        }

        /** How closely a sign binds; 0 for ( and for what is no sign. */
        private static int levelOf(int sign) {
            switch (sign) {
                case '|': return 1;
                case '&': return 2;
                case '<': return COMPARED;
                case '=': return COMPARED;
                case '>': return COMPARED;
                case '+': return 4;
                case '-': return 4;
                case '*': return 5;
                case '/': return 5;
                case '%': return 5;
                case '!': return NOT;
                default: return 0;
            }
        }
    }

    /** All that an IMAGE keeps. */
    private static final class World {
        private final Worker[] workers = new Worker[MOST_WORKERS];
        private final Rest[] rests = new Rest[MOST_RESTS];
        private final Law[] laws = new Law[USES];
        private final int[] tape = new int[MOST_BYTES];
        private final int[] waiting = new int[MOST_WAITING];
        private int workerCount;
        private int restCount;
        private int tapeLength;
        private int waitingCount;
        private int minute;
        private int waited;
        private int from;
        private int to;
        private int z = 1;

        private World() {
            for (int i = 0; i < workers.length; i++) {
                workers[i] = new Worker();
            }
            for (int i = 0; i < rests.length; i++) {
                rests[i] = new Rest();
            }
            for (int i = 0; i < laws.length; i++) {
                laws[i] = new Law();
            }
        }

        private void takeOver(World other) {
            workerCount = other.workerCount;
            restCount = other.restCount;
            tapeLength = other.tapeLength;
            waitingCount = other.waitingCount;
            minute = other.minute;
            waited = other.waited;
            from = other.from;
            to = other.to;
            z = other.z;
            for (int i = 0; i < workerCount; i++) {
                workers[i].takeOver(other.workers[i]);
            }
            for (int i = 0; i < restCount; i++) {
                rests[i].takeOver(other.rests[i]);
            }
            for (int i = 0; i < laws.length; i++) {
                laws[i].takeOver(other.laws[i]);
            }
            System.arraycopy(other.tape, 0, tape, 0, tapeLength);
            System.arraycopy(other.waiting, 0, waiting, 0, waitingCount);
        }

        private boolean hasWorker(int worker) {
            return within(worker, 0, workerCount - 1);
        }

        private boolean hasRest(int rest) {
            return within(rest, 0, restCount - 1);
        }

        private int countAhead(int worker) {
            int ahead = 0;
            for (int i = 0; i < restCount; i++) {
                if (rests[i].isAheadOf(worker)) {
                    ahead++;
                }
            }
            return ahead;
        }

        /** One MINUTE, of all or of one WORKER alone, whom the others' never touch. */
        private void passMinute(int only) {
            for (int i = 0; i < restCount; i++) {
                if (rests[i].isAheadOf(only) && rests[i].when <= minute) {
                    comeUp(rests[i]);
                }
            }
            for (int i = 0; i < workerCount; i++) {
                Worker w = workers[i];
                if (only != ALL_WORKERS && only != i) {
                    continue;
                }
                if (w.away > 0) {
                    w.away--;
                } else if (w.isAtStep()) {
                    w.work(goes(w), minute);
                }
            }
            minute++;
        }

        private void comeUp(Rest r) {
            if (r.isAsked() && from <= minute && minute < to) {
                r.when = to;
                return;
            }
            r.came = 1;
            waited = Math.min(MOST_TOTAL, waited + minute - r.due);
            if (!hasWorker(r.worker)) {
                return;
            }
            Worker w = workers[r.worker];
            if (w.away > 0) {
                w.away = Math.min(MOST_AWAY, w.away + r.takes);
            } else {
                w.leave(keeps(r), r.takes);
            }
        }

        private int keeps(Rest r) {
            if (!hasWorker(r.worker)) {
                return 0;
            }
            Worker w = workers[r.worker];
            int depth = w.depth;
            int left;
            switch (r.kind) {
                case ASKED: left = depth / 2 - r.m; break;
                case SELF: left = depth * 3 / 4; break;
                case DUE: left = w.note == 1 ? depth / 2 + r.m : 0; break;
                case DEEP: left = (depth / 2 - r.m) / (w.done > 0 ? 2 : 1); break;
                case SEAMED: left = w.done == 0 ? depth : depth * 3 / 4; break;
                case TOLD: left = leaves(depth, r.takes, w.note, r.m); break;
                default: left = depth / 2; break;
            }
            return hold(left, 0, depth);
        }

        private int leaves(int depth, int takes, int note, int m) {
            Law law = laws[LEAVES];
            return law.isTold ? law.workOut(depth, takes, note, m) : depth - takes;
        }

        private int goes(Worker w) {
            int hard = w.hards[w.at];
            Law law = laws[GOES];
            int tenths = law.isTold ? law.workOut(w.depth, hard, w.longs[w.at], 0) : quotient(w.depth, hard + 1) + 2;
            return hold(tenths, 0, MOST_GOES);
        }

        private void goAhead(int n, int only) {
            for (int i = 0; i < n; i++) {
                passMinute(only);
            }
        }

        /** END by n: behind the last STEP nothing changes it, so that the rest needn't go by. */
        private int end(int worker, int n) {
            Worker w = workers[worker];
            for (int i = 0; i < n && w.isAtStep(); i++) {
                passMinute(worker);
            }
            return w.ends;
        }

        private int draw() {
            z = z * 1103515245 + 12345;
            return z >>> 8;
        }

        /** What a LOOSE MINUTE has ahead of it. */
        private void wander() {
            for (int i = 0; i < workerCount; i++) {
                Worker w = workers[i];
                if (w.away == 0 && w.isAtStep() && draw() % 60 < w.hards[w.at]) {
                    w.leave(w.depth * 3 / 4, draw() % 5 + 1);
                }
            }
        }

        /**
         * Lets only the chosen ones of a WORKER's BREAKS still come (a bit each, by numbers): how likely
         * that is, by 10 to the power of how many there are.
         */
        private long choose(int worker, int chosen) {
            long weight = 1;
            int bit = 0;
            for (int i = 0; i < restCount; i++) {
                Rest r = rests[i];
                if (r.isAheadOf(worker)) {
                    boolean comes = (chosen >>> bit & 1) == 1;
                    weight *= comes ? r.tenths : MOST_TENTHS - r.tenths;
                    r.came = comes ? 0 : 1;
                    bit++;
                }
            }
            return weight;
        }

        private int offBy(Sheet log, int worker) {
            int off = 0;
            for (int i = 0; i < log.size; i++) {
                passMinute(worker);
                long gap = Math.abs((long) log.numbers[i] - workers[worker].depth);
                off += (int) Math.min(MOST_OFF, gap);
            }
            return off;
        }
    }

    private static final class Sheet {
        private final int[] numbers = new int[MOST_NUMBERS];
        private int bits;
        private int size;

        private void begin(int ofBits, int n) {
            bits = ofBits;
            size = n;
            for (int i = 0; i < numbers.length; i++) {
                numbers[i] = 0;
            }
        }

        private boolean isMissing() {
            return bits == 0;
        }

        private boolean hasRow(int first, int n) {
            return n >= 0 && first >= 0 && n <= size && first <= size - n;
        }

        private void set(int i, int v) {
            if (bits == 8) {
                numbers[i] = (byte) v;
            } else if (bits == 16) {
                numbers[i] = (short) v;
            } else {
                numbers[i] = v;
            }
        }
    }

    private static final class Speaker {
        private final int[] trace = new int[MOST_BODIES];
        private int traced;
        private int kind;
        private int m;
        private int number;
        private boolean isParted;

        private int speak(int ofKind, int ofM, int ofNumber, int voice, int x) {
            kind = ofKind;
            m = ofM;
            number = ofNumber;
            traced = 0;
            isParted = false;
            return say(kind, voice, x, 0);
        }

        /** The VOICE as a KIND has it: by the BODY of that one, or of the next above that has one. */
        private int say(int from, int voice, int x, int depth) {
            if (depth >= DEEPEST_VOICE) {
                return 0;
            }
            int owner = from;
            for (int i = 0; i < KINDS && within(owner, 0, KINDS - 1); i++) {
                int body = BODIES[owner * VOICES + voice];
                if (body != 0) {
                    begin(body);
                    return run(body, KIND_ABOVE[owner], x, depth + 1);
                }
                owner = KIND_ABOVE[owner];
            }
            return 0;
        }

        private void begin(int body) {
            if (traced < trace.length) {
                trace[traced] = body;
                traced++;
            }
        }

        private int run(int body, int above, int x, int depth) {
            switch (body) {
                case 10: return x + number;
                case 11: return say(kind, BREAKS, x, depth) * 2;
                case 12: return say(kind, ASKS, x, depth) - m;
                case 13: return part(x);
                case 20: return say(above, BREAKS, x, depth) - 8;
                case 21: return partAndAsk(above, x, depth);
                case 30: return 0 - say(above, ASKS, x, depth);
                case 40: return say(above, HOLDS, x / 2, depth);
                case 50: return say(above, BREAKS, x, depth) * 3;
                case 51: return say(above, HOLDS, x, depth) ^ number;
                case 60: return say(above, ASKS, x + 1, depth);
                case 70: return 3;
                case 71: return say(above, ASKS, x, depth) + m;
                default: return 0;
            }
        }

        private int partAndAsk(int above, int x, int depth) {
            int parted = say(above, PARTS, x, depth);
            // PARTED is all that voice() answers then: no BODY begins any more.
            return isParted ? 0 : parted + say(kind, ASKS, 1, depth);
        }

        private int part(int x) {
            int by = m - number;
            if (by == 0) {
                isParted = true;
                return 0;
            }
            return x / by;
        }
    }
}
