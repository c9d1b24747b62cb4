import java.math.BigInteger;
import java.util.ArrayList;
import java.util.Arrays;
import java.util.HashMap;
import java.util.List;
import java.util.Map;
import java.util.function.ToIntFunction;

/**
 * The document told a second time, as slowly and as plainly as it can be: worlds are copied whole, all
 * MINUTES go by for all, texts are trees, VOICES are methods that override, FAULTS are found by trying
 * which texts go on. RandomTest holds TakenUp against it.
 */
final class Model {
    static final int LOW = -1000000000;

    /** An ERROR that a call answers. */
    static final class Told extends RuntimeException {
        private static final long serialVersionUID = 1;
        final int k;

        Told(int k) {
            super(null, null, false, false);
            this.k = k;
        }
    }

    static final class Step {
        final int takes;
        final int hard;

        Step(int takes, int hard) {
            this.takes = takes;
            this.hard = hard;
        }
    }

    static final class Person implements Cloneable {
        int depth, at, done, away, note, lost, ends = -1;
        List<Step> steps = new ArrayList<>();

        Person copy() {
            Person p = new Person();
            p.depth = depth;
            p.at = at;
            p.done = done;
            p.away = away;
            p.note = note;
            p.lost = lost;
            p.ends = ends;
            p.steps = new ArrayList<>(steps);
            return p;
        }

        boolean works() {
            return at < steps.size();
        }

        void lose(int left) {
            lost = Math.min(99999, lost + (depth - left));
            depth = left;
        }

        int is(int what) {
            return new int[] {depth, steps.size(), at, done, away, note, lost, ends}[what];
        }
    }

    static final class Pause {
        int kind, m, worker, due, takes, tenths = 10;
        boolean came;
        Integer putOff;

        Pause copy() {
            Pause p = new Pause();
            p.kind = kind;
            p.m = m;
            p.worker = worker;
            p.due = due;
            p.takes = takes;
            p.tenths = tenths;
            p.came = came;
            p.putOff = putOff;
            return p;
        }

        int comes() {
            return putOff == null ? due : putOff;
        }

        boolean isAsked() {
            return kind == 1 || kind == 4;
        }
    }

    static final class Tree {
        final ToIntFunction<Map<Character, Integer>> value;

        Tree(ToIntFunction<Map<Character, Integer>> value) {
            this.value = value;
        }
    }

    /** All that an IMAGE keeps. */
    static final class State {
        List<Person> workers = new ArrayList<>();
        List<Pause> rests = new ArrayList<>();
        Tree[] texts = new Tree[2];
        StringBuilder tape = new StringBuilder();
        List<Integer> waiting = new ArrayList<>();
        int minute, waited, from, to, z = 1;

        State copy() {
            State s = new State();
            for (Person p : workers) {
                s.workers.add(p.copy());
            }
            for (Pause p : rests) {
                s.rests.add(p.copy());
            }
            s.texts = texts.clone();
            s.tape = new StringBuilder(tape);
            s.waiting = new ArrayList<>(waiting);
            s.minute = minute;
            s.waited = waited;
            s.from = from;
            s.to = to;
            s.z = z;
            return s;
        }

        int keeps(Pause p) {
            Person w = workers.get(p.worker);
            double left;
            int d = w.depth;
            int half = d / 2;
            int quarters = (3 * d) / 4;
            if (p.kind == 0) {
                left = half;
            } else if (p.kind == 1) {
                left = half - p.m;
            } else if (p.kind == 2) {
                left = quarters;
            } else if (p.kind == 3) {
                left = w.note == 1 ? half + p.m : 0;
            } else if (p.kind == 4) {
                left = w.done > 0 ? (half - p.m) / 2 : half - p.m;
            } else if (p.kind == 5) {
                left = w.done == 0 ? d : quarters;
            } else if (texts[0] == null) {
                left = d - p.takes;
            } else {
                Map<Character, Integer> names = new HashMap<>();
                names.put('d', d);
                names.put('t', p.takes);
                names.put('n', w.note);
                names.put('m', p.m);
                left = texts[0].value.applyAsInt(names);
            }
            return (int) Math.max(0, Math.min(d, left));
        }

        int goes(Person w) {
            Step s = w.steps.get(w.at);
            int v;
            if (texts[1] == null) {
                v = w.depth / (s.hard + 1) + 2;
            } else {
                Map<Character, Integer> names = new HashMap<>();
                names.put('d', w.depth);
                names.put('h', s.hard);
                names.put('l', s.takes);
                v = texts[1].value.applyAsInt(names);
            }
            return v < 0 ? 0 : v > 99 ? 99 : v;
        }

        void pass() {
            for (Pause p : rests) {
                if (p.came || p.comes() > minute) {
                    continue;
                }
                if (p.isAsked() && from <= minute && minute < to) {
                    p.putOff = to;
                    continue;
                }
                p.came = true;
                waited = Math.min(99999, waited + (minute - p.due));
                Person w = workers.get(p.worker);
                if (w.away == 0) {
                    w.lose(keeps(p));
                    w.away = p.takes;
                } else {
                    w.away = Math.min(999, w.away + p.takes);
                }
            }
            for (Person w : workers) {
                if (w.away > 0) {
                    w.away--;
                } else if (w.works()) {
                    w.done += goes(w);
                    w.depth = Math.min(99, w.depth + 1);
                    if (w.done >= 10 * w.steps.get(w.at).takes) {
                        w.done = 0;
                        w.at++;
                        if (!w.works()) {
                            w.ends = minute;
                        }
                    }
                }
            }
            minute++;
        }

        int draw() {
            z = (int) (z * 1103515245L + 12345L);
            return (int) ((z & 0xFFFFFFFFL) / 256);
        }

        void loose() {
            for (Person w : workers) {
                if (w.away == 0 && w.works() && draw() % 60 < w.steps.get(w.at).hard) {
                    w.away = 1 + draw() % 5;
                    w.lose(3 * w.depth / 4);
                }
            }
            pass();
        }

        State ahead(int n) {
            State s = copy();
            for (int i = 0; i < n; i++) {
                s.pass();
            }
            return s;
        }

        int end(int worker, int n) {
            return ahead(n).workers.get(worker).ends;
        }

        State without(int rest) {
            State s = copy();
            s.rests.get(rest).came = true;
            return s;
        }

        int still() {
            int n = 0;
            for (Pause p : rests) {
                n += p.came ? 0 : 1;
            }
            return n;
        }
    }

    // ---- texts: a recursive descent that answers null, and a FAULT by what goes on

    private String text;
    private int place;
    private String names;

    private Tree parse(String all, String ofNames) {
        text = all;
        place = 0;
        names = ofNames;
        Tree t = some("|", 0);
        return t != null && place == text.length() ? t : null;
    }

    private boolean at(String signs) {
        return place < text.length() && signs.indexOf(text.charAt(place)) >= 0;
    }

    private static final String[] LEVELS = {"|", "&", "<=>", "+-", "*/%"};

    private Tree some(String signs, int open) {
        int level = Arrays.asList(LEVELS).indexOf(signs);
        Tree left = level == 4 ? operand(open) : some(LEVELS[level + 1], open);
        int times = 0;
        while (left != null && at(signs) && (level != 2 || times == 0)) {
            char sign = text.charAt(place++);
            Tree right = level == 4 ? operand(open) : some(LEVELS[level + 1], open);
            if (right == null) {
                return null;
            }
            left = join(sign, left, right);
            times++;
        }
        return left;
    }

    private static Tree join(char sign, Tree a, Tree b) {
        return new Tree(names -> {
            long x = a.value.applyAsInt(names);
            long y = b.value.applyAsInt(names);
            switch (sign) {
                case '|': return x != 0 || y != 0 ? 1 : 0;
                case '&': return x != 0 && y != 0 ? 1 : 0;
                case '<': return x < y ? 1 : 0;
                case '=': return x == y ? 1 : 0;
                case '>': return x > y ? 1 : 0;
                case '+': return (int) (x + y);
                case '-': return (int) (x - y);
                case '*': return (int) (x * y);
                case '/': return y == 0 ? 0 : (int) (x / y);
                default: return y == 0 ? 0 : (int) (x % y);
            }
        });
    }

    private Tree operand(int open) {
        if (place == text.length()) {
            return null;
        }
        char c = text.charAt(place);
        if (c >= '0' && c <= '9') {
            int from = place;
            while (place < text.length() && place < from + 4 && Character.digit(text.charAt(place), 10) >= 0
                && text.charAt(place) < 128) {
                place++;
            }
            int v = Integer.parseInt(text.substring(from, place));
            return new Tree(n -> v);
        }
        if (names.indexOf(c) >= 0) {
            place++;
            return new Tree(n -> n.get(c));
        }
        if (c != '!' && c != '(' || open == 5) {
            return null;
        }
        place++;
        if (c == '!') {
            Tree q = operand(open + 1);
            return q == null ? null : new Tree(n -> q.value.applyAsInt(n) == 0 ? 1 : 0);
        }
        Tree t = some("|", open + 1);
        if (t == null || !at(")")) {
            return null;
        }
        place++;
        return t;
    }

    /** Whether some TEXT goes on with this: one of a few ends makes a TEXT of it. */
    private boolean goesOn(String start, String ofNames) {
        for (String value : new String[] {"", "1"}) {
            for (String closing : new String[] {"", ")", "))", ")))", "))))", ")))))"}) {
                if (parse(start + value + closing, ofNames) != null) {
                    return true;
                }
            }
        }
        return false;
    }

    private int fault(String all, String ofNames) {
        for (int i = 0; i < all.length(); i++) {
            if (!goesOn(all.substring(0, i + 1), ofNames)) {
                return i;
            }
        }
        return all.length();
    }

    // ---- voices, by methods that override

    private final List<Integer> latest = new ArrayList<>();

    class Break {
        final int k;
        final int m;
        final List<Integer> begun = new ArrayList<>();

        Break(int k, int m) {
            this.k = k;
            this.m = m;
        }

        int breaks(int x) {
            begun.add(10);
            return x + k;
        }

        int asks(int x) {
            begun.add(11);
            return breaks(x) * 2;
        }

        int holds(int x) {
            begun.add(12);
            return asks(x) - m;
        }

        int parts(int x) {
            begun.add(13);
            if (m == k) {
                throw new Told(6);
            }
            return x / (m - k);
        }
    }

    class Asked extends Break {
        Asked(int k, int m) {
            super(k, m);
        }

        @Override
        int breaks(int x) {
            begun.add(20);
            return super.breaks(x) - 8;
        }

        @Override
        int parts(int x) {
            begun.add(21);
            return super.parts(x) + asks(1);
        }
    }

    class Self extends Break {
        Self(int k, int m) {
            super(k, m);
        }

        @Override
        int asks(int x) {
            begun.add(30);
            return 0 - super.asks(x);
        }
    }

    class Due extends Break {
        Due(int k, int m) {
            super(k, m);
        }

        @Override
        int holds(int x) {
            begun.add(40);
            return super.holds(x / 2);
        }
    }

    class Deep extends Asked {
        Deep(int k, int m) {
            super(k, m);
        }

        @Override
        int breaks(int x) {
            begun.add(50);
            return super.breaks(x) * 3;
        }

        @Override
        int holds(int x) {
            begun.add(51);
            return super.holds(x) ^ k;
        }
    }

    class Seamed extends Self {
        Seamed(int k, int m) {
            super(k, m);
        }

        @Override
        int asks(int x) {
            begun.add(60);
            return super.asks(x + 1);
        }
    }

    class TextTold extends Break {
        TextTold(int k, int m) {
            super(k, m);
        }

        @Override
        int breaks(int x) {
            begun.add(70);
            return 3;
        }

        @Override
        int asks(int x) {
            begun.add(71);
            return super.asks(x) + m;
        }
    }

    private Break voiceOf(int k, int m, int kind) {
        switch (kind) {
            case 0: return new Break(k, m);
            case 1: return new Asked(k, m);
            case 2: return new Self(k, m);
            case 3: return new Due(k, m);
            case 4: return new Deep(k, m);
            case 5: return new Seamed(k, m);
            default: return new TextTold(k, m);
        }
    }

    // ---- what RandomTest draws by

    int workers() {
        return now.workers.size();
    }

    int rests() {
        return now.rests.size();
    }

    int minute() {
        return now.minute;
    }

    boolean came(int rest) {
        return now.rests.get(rest).came;
    }

    int workerOf(int rest) {
        return now.rests.get(rest).worker;
    }

    /** DEPTH behind n MINUTES of the WORKER of a BREAK, if that had another m. */
    int depthAhead(int rest, int m, int n) {
        State s = now.copy();
        s.rests.get(rest).m = m;
        return s.ahead(n).workers.get(s.rests.get(rest).worker).depth;
    }

    // ---- the calls

    private State now = new State();
    private State image;
    private int images;
    private final Object[] sheets = new Object[4];
    private final int[] told = new int[7];
    /** Which ERROR the latest call answered; 0: none. */
    int latestError;

    private static void beyond(boolean is) {
        if (is) {
            throw new Told(1);
        }
    }

    private static void tells(int k, boolean is) {
        if (is) {
            throw new Told(k);
        }
    }

    private static boolean out(long v, long least, long most) {
        return v < least || v > most;
    }

    private boolean noWorker(int worker) {
        return out(worker, 0, now.workers.size() - 1);
    }

    private boolean noRest(int rest) {
        return out(rest, 0, now.rests.size() - 1);
    }

    private static int length(Object sheet) {
        return java.lang.reflect.Array.getLength(sheet);
    }

    private static int number(Object sheet, int i) {
        return ((Number) java.lang.reflect.Array.get(sheet, i)).intValue();
    }

    /** A call by its name: what it answers; an ERROR is counted. */
    long call(String name, long[] a) {
        State kept = now.copy();
        latestError = 0;
        try {
            return answer(name, a);
        } catch (Told e) {
            now = kept;
            latestError = e.k;
            told[e.k]++;
            return LOW - e.k;
        }
    }

    private static int arg(long[] a, int i) {
        return i < a.length ? (int) a[i] : 0;
    }

    private long answer(String name, long[] args) {
        int a = arg(args, 0);
        int b = arg(args, 1);
        int c = arg(args, 2);
        int d = arg(args, 3);
        int e = arg(args, 4);
        switch (name) {
            case "worker": return worker(a);
            case "workerIs":
                beyond(noWorker(a) || out(b, 0, 7));
                return now.workers.get(a).is(b);
            case "setWorker": return setWorker(a, b, c);
            case "step":
                beyond(noWorker(a) || out(b, 1, 60) || out(c, 0, 9));
                tells(4, now.workers.get(a).steps.size() == 8);
                return step(a, b, c);
            case "stepIs":
                beyond(noWorker(a) || out(c, 0, 1) || out(b, 0, now.workers.get(a).steps.size() - 1));
                return c == 0 ? now.workers.get(a).steps.get(b).takes : now.workers.get(a).steps.get(b).hard;
            case "rest": return rest(a, b, c, d);
            case "restIs": return restIs(a, b);
            case "as": return as(a, b);
            case "setRest": return setRest(a, b, c);
            case "quiet": return quiet(a, b);
            case "feed": return feed(args[0], b);
            case "text": return text(a);
            case "untell": {
                beyond(out(a, 0, 1));
                int was = now.texts[a] == null ? 0 : 1;
                now.texts[a] = null;
                return was;
            }
            case "minutes": return minutes(a, false);
            case "loose": return minutes(a, true);
            case "seed": {
                int was = now.z;
                now.z = a;
                return was;
            }
            case "then":
                beyond(out(a, 0, 600) || noWorker(b) || out(c, 0, 7));
                return now.ahead(a).workers.get(b).is(c);
            case "waits":
                beyond(out(a, 0, 600));
                return now.ahead(a).waited;
            case "cost": return cost(a, b);
            case "refuse": return refuse(a, b);
            case "best": return best(a, b);
            case "heap": return heap(a);
            case "odds": return odds(a, b, c, d);
            case "voice": return voice(a, b, c);
            case "body":
                tells(2, out(a, 0, latest.size() - 1));
                return latest.get(a);
            case "sheet": return sheet(a, b, c);
            case "put": return put(a, b, c);
            case "move": return move(a, b, c, d, e);
            case "steps": return steps(a, b);
            case "off":
                beyond(out(a, 0, 3) || noWorker(b));
                tells(2, sheets[a] == null);
                return off(now, sheets[a], b);
            case "fits": return fits(a, b);
            case "image":
                image = now.copy();
                return ++images;
            case "restore":
                tells(2, image == null);
                now = image.copy();
                return now.minute;
            case "tell":
                tells(4, now.waiting.size() == 24);
                now.waiting.add(a);
                return now.waiting.size();
            case "check": return check();
            case "count": return count(a);
            case "told":
                beyond(out(a, 1, 6));
                return told[a];
            default: throw new IllegalArgumentException(name);
        }
    }

    private long worker(int note) {
        beyond(out(note, 0, 1));
        tells(4, now.workers.size() == 4);
        Person p = new Person();
        p.note = note;
        now.workers.add(p);
        return now.workers.size() - 1;
    }

    private long setWorker(int worker, int what, int v) {
        beyond(noWorker(worker));
        Person p = now.workers.get(worker);
        if (what == 0) {
            beyond(out(v, 0, 99));
            int was = p.depth;
            p.depth = v;
            return was;
        }
        if (what == 4) {
            beyond(out(v, 0, 999));
            int was = p.away;
            p.away = v;
            return was;
        }
        beyond(what != 5 || out(v, 0, 1));
        int was = p.note;
        p.note = v;
        return was;
    }

    private int step(int worker, int takes, int hard) {
        Person p = now.workers.get(worker);
        p.steps.add(new Step(takes, hard));
        p.ends = -1;
        return p.steps.size();
    }

    private long rest(int km, int worker, int due, int takes) {
        beyond(out(km, 0, 69) || noWorker(worker) || out(due, 0, 999) || out(takes, 1, 60));
        tells(4, now.rests.size() == 8);
        Pause p = new Pause();
        p.kind = km / 10;
        p.m = km % 10;
        p.worker = worker;
        p.due = due;
        p.takes = takes;
        now.rests.add(p);
        return now.rests.size() - 1;
    }

    private long restIs(int rest, int what) {
        beyond(noRest(rest) || out(what, 0, 7));
        Pause p = now.rests.get(rest);
        return new int[] {p.kind, p.m, p.worker, p.due, p.takes, p.tenths, p.came ? 1 : 0, now.keeps(p)}[what];
    }

    private long as(int rest, int kind) {
        beyond(noRest(rest) || out(kind, 0, 6));
        Class<?>[] kinds = {Break.class, Asked.class, Self.class, Due.class, Deep.class, Seamed.class, TextTold.class};
        Pause p = now.rests.get(rest);
        tells(5, !kinds[kind].isInstance(voiceOf(0, 0, p.kind)));
        return p.takes;
    }

    private long setRest(int rest, int what, int v) {
        beyond(noRest(rest));
        Pause p = now.rests.get(rest);
        int was;
        switch (what) {
            case 0:
                beyond(out(v, 0, 6));
                was = p.kind;
                p.kind = v;
                return was;
            case 1:
                beyond(out(v, 0, 9));
                was = p.m;
                p.m = v;
                return was;
            case 3:
                beyond(out(v, 0, 999));
                was = p.due;
                p.due = v;
                p.putOff = null;
                return was;
            case 4:
                beyond(out(v, 1, 60));
                was = p.takes;
                p.takes = v;
                return was;
            case 5:
                beyond(out(v, 0, 10));
                was = p.tenths;
                p.tenths = v;
                return was;
            default:
                throw new Told(1);
        }
    }

    private long quiet(int what, int v) {
        beyond(out(what, 0, 1) || out(v, 0, 999));
        int was = what == 0 ? now.from : now.to;
        if (what == 0) {
            now.from = v;
        } else {
            now.to = v;
        }
        return was;
    }

    private long feed(long word, int n) {
        beyond(out(n, 1, 8));
        tells(4, now.tape.length() + n > 60);
        byte[] bytes = BigInteger.valueOf(word).toByteArray();
        for (int i = 0; i < n; i++) {
            int v = i < bytes.length ? bytes[bytes.length - 1 - i] : word < 0 ? -1 : 0;
            now.tape.append((char) (v & 255));
        }
        return now.tape.length();
    }

    private long text(int use) {
        beyond(out(use, 0, 1));
        String all = now.tape.toString();
        now.tape.setLength(0);
        String ofNames = use == 0 ? "dtnm" : "dhl";
        Tree t = parse(all, ofNames);
        if (t == null) {
            return -10 - fault(all, ofNames);
        }
        now.texts[use] = t;
        return 1;
    }

    private long minutes(int n, boolean isLoose) {
        beyond(out(n, 1, 600));
        tells(3, now.minute + n > 9999);
        for (int i = 0; i < n; i++) {
            if (isLoose) {
                now.loose();
            } else {
                now.pass();
            }
        }
        return now.minute;
    }

    private long cost(int rest, int n) {
        beyond(noRest(rest) || out(n, 0, 600));
        Pause p = now.rests.get(rest);
        tells(3, p.came);
        int with = now.end(p.worker, n);
        int without = now.without(rest).end(p.worker, n);
        tells(2, with == -1 || without == -1);
        return with - without;
    }

    private long refuse(int worker, int n) {
        beyond(noWorker(worker) || out(n, 0, 600));
        int[] ends = new int[now.rests.size()];
        int soonest = Integer.MAX_VALUE;
        for (int i = 0; i < ends.length; i++) {
            Pause p = now.rests.get(i);
            ends[i] = p.came || p.worker != worker ? -1 : now.without(i).end(worker, n);
            soonest = ends[i] == -1 ? soonest : Math.min(soonest, ends[i]);
        }
        for (int i = 0; i < ends.length; i++) {
            if (ends[i] == soonest) {
                return i;
            }
        }
        throw new Told(2);
    }

    private long best(int rest, int n) {
        beyond(noRest(rest) || out(n, 1, 120));
        tells(3, now.rests.get(rest).came);
        Map<Integer, Integer> ends = new HashMap<>();
        for (int minute = now.minute; minute < now.minute + n; minute++) {
            State s = now.copy();
            s.rests.get(rest).due = minute;
            s.rests.get(rest).putOff = null;
            int end = s.end(now.rests.get(rest).worker, 600);
            if (end != -1) {
                ends.put(minute, end);
            }
        }
        return ends.keySet().stream().min((p, q) -> ends.get(p).equals(ends.get(q))
            ? p.compareTo(q) : ends.get(p).compareTo(ends.get(q))).orElseThrow(() -> new Told(2));
    }

    private long heap(int h) {
        beyond(out(h, 0, 999));
        State s = now.copy();
        for (Pause p : s.rests) {
            if (p.isAsked() && !p.came && p.comes() <= h) {
                p.putOff = h;
            }
        }
        return s.ahead(600).waited - now.ahead(600).waited;
    }

    private long odds(int worker, int n, int t, int part) {
        beyond(noWorker(worker) || out(n, 0, 600) || out(t, 0, 9999) || out(part, 0, 1));
        tells(3, now.still() > 6);
        BigInteger above = chances(now, 0, worker, n, t);
        BigInteger below = BigInteger.TEN.pow(now.still());
        BigInteger both = above.gcd(below);
        return (part == 0 ? above : below).divide(both).longValue();
    }

    private static BigInteger chances(State s, int from, int worker, int n, int t) {
        for (int i = from; i < s.rests.size(); i++) {
            Pause p = s.rests.get(i);
            if (!p.came) {
                BigInteger with = p.tenths == 0 ? BigInteger.ZERO
                    : BigInteger.valueOf(p.tenths).multiply(chances(s, i + 1, worker, n, t));
                BigInteger without = p.tenths == 10 ? BigInteger.ZERO
                    : BigInteger.valueOf(10 - p.tenths).multiply(chances(s.without(i), i + 1, worker, n, t));
                return with.add(without);
            }
        }
        int end = s.end(worker, n);
        return end != -1 && end <= t ? BigInteger.ONE : BigInteger.ZERO;
    }

    private long voice(int rest, int voice, int x) {
        beyond(noRest(rest) || out(voice, 0, 3));
        Break b = voiceOf(rest, now.rests.get(rest).m, now.rests.get(rest).kind);
        try {
            return voice == 0 ? b.breaks(x) : voice == 1 ? b.asks(x) : voice == 2 ? b.holds(x) : b.parts(x);
        } finally {
            latest.clear();
            latest.addAll(b.begun.subList(0, Math.min(30, b.begun.size())));
        }
    }

    private long sheet(int sheet, int bits, int n) {
        beyond(out(sheet, 0, 3) || bits != 0 && bits != 8 && bits != 16 && bits != 32);
        if (bits == 0) {
            sheets[sheet] = null;
            return 1;
        }
        tells(3, n < 0);
        beyond(n > 24);
        sheets[sheet] = bits == 8 ? new byte[n] : bits == 16 ? new short[n] : (Object) new int[n];
        return 1;
    }

    private long put(int sheet, int i, int v) {
        beyond(out(sheet, 0, 3));
        Object s = sheets[sheet];
        tells(2, s == null);
        beyond(out(i, 0, length(s) - 1));
        if (s instanceof byte[]) {
            ((byte[]) s)[i] = (byte) v;
        } else if (s instanceof short[]) {
            ((short[]) s)[i] = (short) v;
        } else {
            ((int[]) s)[i] = v;
        }
        return 1;
    }

    private long move(int sheet, int i, int other, int j, int n) {
        beyond(out(sheet, 0, 3) || out(other, 0, 3));
        Object s = sheets[sheet];
        Object o = sheets[other];
        tells(2, s == null || o == null);
        tells(5, s.getClass() != o.getClass());
        try {
            System.arraycopy(s, i, o, j, n);
        } catch (IndexOutOfBoundsException e) {
            throw new Told(1);
        }
        return n;
    }

    private long steps(int sheet, int worker) {
        beyond(out(sheet, 0, 3) || noWorker(worker));
        Object s = sheets[sheet];
        tells(2, s == null);
        int came = 0;
        while (2 * came + 1 < length(s)) {
            int takes = number(s, 2 * came);
            int hard = number(s, 2 * came + 1);
            if (out(takes, 1, 60) || out(hard, 0, 9) || now.workers.get(worker).steps.size() == 8) {
                return came;
            }
            step(worker, takes, hard);
            came++;
        }
        return came;
    }

    private static int off(State s, Object sheet, int worker) {
        int sum = 0;
        for (int i = 0; i < length(sheet); i++) {
            long gap = number(sheet, i) - (long) s.ahead(i + 1).workers.get(worker).depth;
            sum += (int) Math.min(1000, gap < 0 ? -gap : gap);
        }
        return sum;
    }

    private long fits(int sheet, int rest) {
        beyond(out(sheet, 0, 3) || noRest(rest));
        tells(2, sheets[sheet] == null);
        int[] off = new int[10];
        for (int m = 0; m < 10; m++) {
            State s = now.copy();
            s.rests.get(rest).m = m;
            off[m] = off(s, sheets[sheet], now.rests.get(rest).worker);
        }
        int least = Arrays.stream(off).min().getAsInt();
        for (int m = 0; m < 10; m++) {
            if (off[m] == least) {
                return m;
            }
        }
        throw new IllegalStateException();
    }

    private long check() {
        List<Integer> ends = new ArrayList<>();
        for (Person p : now.ahead(600).workers) {
            ends.add(p.ends);
        }
        List<Integer> waiting = now.waiting;
        now.waiting = new ArrayList<>();
        if (ends.equals(waiting)) {
            return 0;
        }
        int i = 0;
        while (i < ends.size() && i < waiting.size() && ends.get(i).equals(waiting.get(i))) {
            i++;
        }
        return 1 + i;
    }

    private long count(int what) {
        beyond(out(what, 0, 10));
        return new int[] {now.workers.size(), now.rests.size(), now.still(), now.minute, now.waited, now.from, now.to,
            now.tape.length(), now.waiting.size(), latest.size(), now.z}[what];
    }
}
