import java.util.ArrayList;
import java.util.List;
import java.util.Map;
import java.util.Random;
import java.util.Set;
import java.util.TreeMap;

/**
 * Runs of calls drawn by chance (the same each time), on TakenUp and on Model; every answer is due.
 * With arguments: how many runs, from which seed on, and (a third) to say how often each answer came.
 */
public final class RandomTest {
    private static final int CALLS = 512;
    private static final String[] NAMES = {"worker", "workerIs", "setWorker", "step", "stepIs", "rest", "restIs", "as",
        "setRest", "quiet", "feed", "text", "untell", "minutes", "loose", "seed", "then", "waits", "cost", "refuse",
        "best", "heap", "odds", "voice", "body", "sheet", "put", "move", "steps", "off", "fits", "image", "restore",
        "tell", "check", "count", "told"};
    /** How often each is called, by tenths of the usual. */
    private static final int[] OFTEN = {2, 10, 14, 6, 3, 10, 10, 5,
        24, 8, 2, 8, 4, 20, 6, 2, 12, 6, 20, 14,
        10, 14, 16, 16, 6, 4, 8, 8, 2, 6, 3, 4, 14,
        2, 2, 8, 3};
    /** Of these it is looked at whether they answer 0, more, or less. */
    private static final Set<String> PLAIN = Set.of("cost", "refuse", "best", "heap", "odds", "fits", "steps", "off",
        "check", "untell");
    private static final String[][] KNOWN = {{"d-m*2", "d-(n=0)*t", "d*(9-m)/9", "(t<9)*d|0", "d/2+n*m"},
        {"99-d", "d/2+h", "l/9+1", "(d+h)*7%19", "!(d<20)*30", "9", "(d>40)*(90-d)+2"}};

    private final Random random;
    private final Model model = new Model();
    private final List<Pending> pending = new ArrayList<>();
    /** 9: hundreds of MINUTES go by at once; 8: nothing stands at first; below 5 all is near at hand. */
    private final int wild;
    private final Map<String, Integer> seen;
    /** The BREAK whose LOG comes next; -1: none. */
    private int logged = -1;
    private int wrong;

    private RandomTest(long seed, Map<String, Integer> seen) {
        random = new Random(seed);
        wild = random.nextInt(10);
        this.seen = seen;
    }

    public static void main(String[] args) {
        int runs = args.length > 0 ? Integer.parseInt(args[0]) : 600;
        long first = args.length > 1 ? Long.parseLong(args[1]) : 1;
        Map<String, Integer> seen = new TreeMap<>();
        int wrong = 0;
        for (int i = 0; i < runs; i++) {
            wrong += new RandomTest(first + i, seen).run(first + i);
        }
        wrong += missing(seen);
        if (args.length > 2) {
            seen.forEach((key, n) -> System.out.println(key + ": " + n));
        }
        System.out.println(runs + " runs of " + CALLS + " calls; " + wrong + " wrong");
        if (wrong != 0) {
            System.exit(1);
        }
    }

    private int run(long seed) {
        TakenUp x = new TakenUp();
        List<String> calls = new ArrayList<>();
        if (wild != 8) {
            begin();
        }
        for (int i = 0; i < CALLS && wrong == 0; i++) {
            Pending p = !pending.isEmpty() ? pending.remove(0) : logged >= 0 ? log() : draw();
            long got = Calls.call(x, p.name, p.args);
            long want = model.call(p.name, p.args);
            calls.add(p + " = " + got);
            note(p.name, want, model.latestError);
            if (got != want) {
                wrong++;
                System.out.println("seed " + seed + ", call " + i + ": " + p + " answered " + got + ", due is " + want);
                for (String call : calls.subList(Math.max(0, calls.size() - 30), calls.size())) {
                    System.out.println("    " + call);
                }
            }
        }
        return wrong;
    }

    private void note(String name, long want, int error) {
        String key = name;
        if (error > 0) {
            key = name + " " + error;
        } else if (name.equals("text") && want < 0) {
            key = "text fault";
        } else if (PLAIN.contains(name)) {
            key = name + (want == 0 ? " nothing" : want < 0 ? " less" : " more");
        }
        seen.merge(key, 1, Integer::sum);
        if (!key.equals(name)) {
            seen.merge(error > 0 ? "errors" : name, 1, Integer::sum);
        }
    }

    /** What each call must have answered at least some times, so that the runs show something. */
    private static int missing(Map<String, Integer> seen) {
        String[] errors = {"worker 14", "workerIs 1", "setWorker 1", "step 14", "stepIs 1", "rest 14", "restIs 1", "as 15",
            "setRest 1", "quiet 1", "feed 14", "text 1", "untell 1", "minutes 13", "loose 13", "seed ", "then 1", "waits 1",
            "cost 132", "refuse 12", "best 132", "heap 1", "odds 13", "voice 16", "body 2", "sheet 13", "put 12", "move 125",
            "steps 12", "off 12", "fits 12", "image ", "restore 2", "tell 4", "check ", "count 1", "told 1"};
        int missing = 0;
        for (String e : errors) {
            String name = e.substring(0, e.indexOf(' '));
            List<String> keys = new ArrayList<>(List.of(name));
            for (char k : e.substring(e.indexOf(' ') + 1).toCharArray()) {
                keys.add(name + " " + k);
            }
            for (String key : keys) {
                if (seen.getOrDefault(key, 0) < 5) {
                    missing++;
                    System.out.println("too few of " + key + ": " + seen.getOrDefault(key, 0));
                }
            }
        }
        for (String key : List.of("text fault", "cost nothing", "cost more", "cost less", "refuse nothing", "refuse more",
            "best nothing", "best more", "heap nothing", "heap more", "heap less", "odds nothing", "odds more",
            "fits nothing", "fits more", "steps nothing", "steps more", "off nothing", "off more", "check nothing",
            "check more", "untell nothing", "untell more")) {
            if (seen.getOrDefault(key, 0) < 5) {
                missing++;
                System.out.println("too few of " + key + ": " + seen.getOrDefault(key, 0));
            }
        }
        return missing;
    }

    private static final class Pending {
        final String name;
        final long[] args;

        Pending(String name, long... args) {
            this.name = name;
            this.args = args;
        }

        @Override
        public String toString() {
            StringBuilder s = new StringBuilder(name).append('(');
            for (int i = 0; i < args.length; i++) {
                s.append(i == 0 ? "" : ", ").append(args[i]);
            }
            return s.append(')').toString();
        }
    }

    private int below(int n) {
        return random.nextInt(n);
    }

    /** One of least .. most; now and then an edge, a neighbour of an edge, or anything. */
    private long from(int least, int most) {
        int how = below(100);
        if (how < 86) {
            return least + below(most - least + 1);
        }
        switch (how) {
            case 86: case 87: case 88: return least;
            case 89: case 90: case 91: return most;
            case 92: return least - 1L;
            case 93: return most + 1L;
            case 94: return random.nextInt();
            case 95: return Integer.MIN_VALUE;
            case 96: return Integer.MAX_VALUE;
            default: return Math.min(most, least + 1L);
        }
    }

    private Pending draw() {
        int all = 0;
        for (int often : OFTEN) {
            all += often;
        }
        int at = below(all);
        int i = 0;
        while (at >= OFTEN[i]) {
            at -= OFTEN[i];
            i++;
        }
        return draw(NAMES[i]);
    }

    private void begin() {
        for (int i = 1 + below(4); i > 0; i--) {
            pending.add(new Pending("worker", below(2)));
        }
        for (int i = below(12); i > 0; i--) {
            pending.add(new Pending("step", below(3), 1 + below(below(2) == 0 ? 9 : 60), below(10)));
        }
        for (int i = below(8); i > 0; i--) {
            pending.add(new Pending("rest", below(70), below(2), below(60), 1 + below(20)));
        }
        if (below(3) > 0) {
            pending.add(new Pending("image"));
        }
    }

    private long rest() {
        return model.rests() == 0 ? from(0, 7) : from(0, model.rests() - 1);
    }

    private long worker() {
        return model.workers() == 0 ? from(0, 3) : from(0, model.workers() - 1);
    }

    /** Mostly a MINUTE near to now. */
    private long due() {
        int now = Math.min(999, model.minute());
        return wild < 8 ? from(Math.max(0, now - 20), Math.min(999, now + 60)) : from(0, 999);
    }

    private long far() {
        return below(3) == 0 ? from(0, 600) : from(0, wild < 5 ? 60 : 200);
    }

    private Pending draw(String name) {
        switch (name) {
            case "worker": return new Pending(name, from(0, 1));
            case "workerIs": return new Pending(name, worker(), from(0, 7));
            case "setWorker": return setWorker(worker());
            case "step": return new Pending(name, worker(), below(2) == 0 ? from(1, 60) : from(1, 9), from(0, 9));
            case "stepIs": return new Pending(name, worker(), from(0, 7), from(0, 1));
            case "rest": return new Pending(name, from(0, 69), worker(), due(), below(2) == 0 ? from(1, 60) : from(1, 9));
            case "restIs": return new Pending(name, rest(), below(3) == 0 ? 7 : from(0, 7));
            case "as": return new Pending(name, rest(), from(0, 6));
            case "setRest": return setRest();
            case "quiet": return new Pending(name, from(0, 1), due());
            case "feed": return new Pending(name, below(4) == 0 ? random.nextLong() : 0x2B312B312B312B31L, from(1, 8));
            case "text": return text();
            case "untell": return new Pending(name, from(0, 1));
            case "minutes": case "loose": return minutes(name);
            case "seed": return new Pending(name, random.nextInt());
            case "then": return new Pending(name, far(), worker(), from(0, 7));
            case "waits": return new Pending(name, far());
            case "cost": return new Pending(name, rest(), far());
            case "refuse": return new Pending(name, worker(), far());
            case "best": return new Pending(name, rest(), below(9) == 0 ? from(1, 120) : from(1, 12));
            case "heap": return new Pending(name, below(2) == 0 ? from(0, 999) : due());
            case "odds": return odds();
            case "voice": return voice();
            case "body": return new Pending(name, from(0, 6));
            case "sheet": return new Pending(name, from(0, 3), below(20) == 0 ? below(33) : 8 * below(5), from(0, 24));
            case "put": return new Pending(name, from(0, 3), from(0, 23), below(9) == 0 ? random.nextInt() : from(0, 60));
            case "move": return new Pending(name, from(0, 3), from(0, 12), from(0, 3), from(0, 12), from(0, 12));
            case "fits": return below(2) == 0 && model.rests() > 0 ? aheadOfLog() : new Pending(name, from(0, 3), rest());
            case "steps": return stepSheet();
            case "off": return new Pending(name, from(0, 3), worker());
            case "tell": return tell();
            case "count": return new Pending(name, from(0, 10));
            case "told": return new Pending(name, from(1, 6));
            default: return new Pending(name);
        }
    }

    private Pending minutes(String name) {
        return new Pending(name, wild == 9 ? from(450, 600) : below(12) == 0 ? from(1, 600) : from(1, 12));
    }

    private Pending setWorker(long worker) {
        switch (below(8)) {
            case 0: return new Pending("setWorker", worker, 4, from(0, 999));
            case 1: case 2: return new Pending("setWorker", worker, 4, from(0, 3));
            case 3: return new Pending("setWorker", worker, 5, from(0, 1));
            case 4: return new Pending("setWorker", worker, from(0, 7), from(0, 99));
            default: return new Pending("setWorker", worker, 0, from(0, 99));
        }
    }

    private Pending setRest() {
        switch (below(7)) {
            case 0: return new Pending("setRest", rest(), 0, from(0, 6));
            case 1: return new Pending("setRest", rest(), 1, from(0, 9));
            case 2: case 3: return new Pending("setRest", rest(), 3, due());
            case 4: return new Pending("setRest", rest(), 4, from(1, 60));
            case 5: return new Pending("setRest", rest(), 5, from(0, 10));
            default: return new Pending("setRest", rest(), from(0, 7), from(0, 9));
        }
    }

    /** Often a VOICE is followed by THE TRACE, which also one that is PARTED leaves. */
    private Pending voice() {
        if (below(2) == 0) {
            pending.add(new Pending("count", 9));
            pending.add(new Pending("body", below(3)));
        }
        return new Pending("voice", rest(), from(0, 3), below(3) == 0 ? random.nextInt() : from(-50, 50));
    }

    private Pending odds() {
        long worker = worker();
        long n = far();
        long t = below(3) == 0 ? from(0, 9999) : from(0, 200);
        pending.add(new Pending("odds", worker, n, t, 1));
        return new Pending("odds", worker, n, t, below(12) == 0 ? from(0, 1) : 0);
    }

    /** Often all the ENDS are told and then checked; the model says what they are. */
    private Pending tell() {
        int n = below(6) == 0 ? 25 : below(5);
        for (int i = 0; i < n; i++) {
            pending.add(new Pending("tell", below(3) == 0 ? from(0, 99) : -1));
        }
        if (below(3) == 0) {
            pending.add(new Pending("check"));
        }
        return new Pending("tell", -1);
    }

    /** Brings a BREAK near, of a KIND for which m matters; then comes its LOG. */
    private Pending aheadOfLog() {
        logged = below(model.rests());
        for (int i = 0; i < model.rests() && model.came(logged); i++) {
            logged = (logged + 1) % model.rests();
        }
        int worker = model.workerOf(logged);
        pending.add(new Pending("setWorker", worker, 4, below(3)));
        pending.add(new Pending("setRest", logged, 0, new int[] {1, 1, 3, 4, 6}[below(5)]));
        pending.add(new Pending("setRest", logged, 3, Math.min(999, model.minute() + below(6))));
        return new Pending("setWorker", worker, 0, from(0, 99));
    }

    /** A LOG of a BREAK's WORKER as it would be by some m, often with a slip or two. */
    private Pending log() {
        int sheet = below(4);
        int rest = logged;
        logged = -1;
        int m = below(10);
        int n = below(25);
        for (int i = 0; i < n; i++) {
            int slip = below(6) == 0 ? below(9) - 4 : 0;
            pending.add(new Pending("put", sheet, i, model.depthAhead(rest, m, i + 1) + slip));
        }
        pending.add(new Pending("fits", sheet, rest));
        pending.add(new Pending("off", sheet, worker()));
        return new Pending("sheet", sheet, 8 << below(3), n);
    }

    private Pending stepSheet() {
        if (below(4) == 0) {
            return new Pending("steps", from(0, 3), worker());
        }
        int sheet = below(4);
        int n = below(7);
        for (int i = 0; i < n; i++) {
            pending.add(new Pending("put", sheet, i, i % 2 == 0 ? from(1, 60) : from(0, 9)));
        }
        pending.add(new Pending("steps", sheet, worker()));
        return new Pending("sheet", sheet, 8 << below(3), n);
    }

    // ---- texts: some that are ones, often with a byte more, less, or another

    private Pending text() {
        int use = below(2);
        String names = use == 0 ? "dtnm" : "dhl";
        StringBuilder text = new StringBuilder();
        if (below(2) == 0) {
            text.append(KNOWN[use][below(KNOWN[use].length)]);
        } else {
            some(text, names, 0, 1 + below(4));
        }
        int changes = below(3) == 0 ? 1 + below(3) : 0;
        String signs = "|&<=>+-*/%!()0123456789" + names + "x ";
        for (int i = 0; i < changes && text.length() > 0; i++) {
            int at = below(text.length());
            char sign = below(20) == 0 ? (char) below(256) : signs.charAt(below(signs.length()));
            switch (below(3)) {
                case 0: text.insert(at, sign); break;
                case 1: text.setCharAt(at, sign); break;
                default: text.deleteCharAt(at); break;
            }
        }
        for (int i = 0; i < text.length(); i += 8) {
            long word = random.nextInt();
            int n = Math.min(8, text.length() - i);
            for (int j = n - 1; j >= 0; j--) {
                word = word << 8 | text.charAt(i + j);
            }
            pending.add(new Pending("feed", word, n));
        }
        pending.add(new Pending("text", below(9) == 0 ? from(0, 1) : use));
        // an empty tape first, mostly
        return below(10) == 0 ? new Pending("count", 7) : new Pending("text", use);
    }

    private void some(StringBuilder text, String names, int open, int size) {
        for (int i = 0; i < size; i++) {
            if (i > 0) {
                text.append("|&<=>+-*/%+-*/".charAt(below(14)));
            }
            operand(text, names, open);
        }
    }

    private void operand(StringBuilder text, String names, int open) {
        int how = below(10);
        if (how < 4) {
            text.append(names.charAt(below(names.length())));
        } else if (how < 7 || open >= 6) {
            text.append(below(3) == 0 ? below(10000) : below(100));
        } else if (how < 8) {
            text.append('!');
            operand(text, names, open + 1);
        } else {
            text.append('(');
            some(text, names, open + 1, 1 + below(3));
            text.append(')');
        }
    }
}
