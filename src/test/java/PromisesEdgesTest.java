import java.io.IOException;

/** Each sentence of promises 1 to 24; what is refused is refused on a House, beside a twin. */
public final class PromisesEdgesTest {
    private static final int MIN = Integer.MIN_VALUE;
    private static final int MAX = Integer.MAX_VALUE;
    private static final int[] ANY = {};
    private static final int[] TWO = {0, 1};
    private static final int[] EIGHT = {0, 7};
    private static final int[] RESTS = {0, 3};
    private static final int[] AHEAD = {0, 600};

    private static Said said;

    public static void main(String[] args) throws IOException {
        said = new Said();
        newObject();
        worker();
        workerIs();
        setWorker();
        step();
        stepIs();
        rest();
        restIs();
        as();
        setRest();
        quiet();
        feed();
        text();
        untell();
        minutes();
        loose();
        seed();
        then();
        waits();
        cost();
        refuse();
        best();
        heap();
        odds();
        said.end();
    }

    /** A call that would be done, at the least and at the most of each of its numbers, and just outside them. */
    private static void beyond(String name, long[] args, int[]... bounds) {
        said.says("BEYOND.");
        said.bounds(name, args, bounds);
    }

    private static long[] of(long... args) {
        return args;
    }

    private static void newObject() {
        said.promise(1);
        said.says("All as at first; no WORKERS, BREAKS.");
        TakenUp x = new TakenUp();
        for (int what = 0; what <= 10; what++) {
            said.is("count(" + what + ")", x.count(what), what == 10 ? 1 : 0);
        }
        for (int k = 1; k <= 6; k++) {
            said.is("told(" + k + ")", x.told(k), 0);
        }
        said.is("no WORKER", x.workerIs(0, 0), Due.BEYOND);
        said.is("no BREAK", x.restIs(0, 0), Due.BEYOND);
        said.is("no TEXTS", x.untell(0) + x.untell(1), 0);
        for (int sheet = 0; sheet < 4; sheet++) {
            said.is("no SHEETS", x.put(sheet, 0, 0), Due.NONE);
        }
        said.is("no TRACE", x.body(0), Due.NONE);
        said.is("no IMAGE", x.restore(), Due.NONE);
        said.is("THE TAPE is empty", x.text(0), -10);
        said.is("no numbers wait, no WORKERS", x.check(), 0);
        said.is("the first IMAGE", x.image(), 1);
        said.is("MINUTE 0", x.minutes(1), 1);
        TakenUp other = new TakenUp();
        other.worker(1);
        said.is("another one's are its own", x.count(0), 0);
    }

    private static void worker() {
        said.promise(2);
        said.says("A WORKER: the number.");
        TakenUp x = new TakenUp();
        for (int i = 0; i < 4; i++) {
            said.is("worker(" + i % 2 + ")", x.worker(i % 2), i);
            said.is("NOTE", x.workerIs(i, 5), i % 2);
        }

        said.says("BEYOND: note 0, 1.");
        said.bounds("worker", of(0), TWO);

        said.says("FULL.");
        said.refused(House::full, "worker(0)", Due.FULL, y -> y.worker(0));
        said.refused(House::full, "worker(1)", Due.FULL, y -> y.worker(1));
        said.refused(House::full, "worker(2), BEYOND first", Due.BEYOND, y -> y.worker(2));
    }

    private static void workerIs() {
        said.promise(3);
        said.says("Of a WORKER: 0 DEPTH, 1 how many STEPS, 2 AT (as many as there are STEPS: all are done), 3 DONE, 4 AWAY,"
            + " 5 NOTE, 6 LOST, 7 ENDS.");
        TakenUp x = new TakenUp();
        x.worker(1);
        said.worker("at first", x, 0, 0, 0, 0, 0, 0, 1, 0, -1);
        x.setWorker(0, 0, 51);
        for (int i = 0; i < 8; i++) {
            x.step(0, 1, 0);
        }
        x.rest(0, 0, 1, 4);
        x.minutes(2);
        // 53 tenths in MINUTE 0; 52 is DEPTH then, of which 26 are lost
        said.worker("AWAY", x, 0, 26, 8, 1, 0, 3, 1, 26, -1);
        x.minutes(3);
        Due.text(x, 1, "9");
        x.minutes(1);
        said.worker("in the midst", x, 0, 27, 8, 1, 9, 0, 1, 26, -1);
        Due.text(x, 1, "10");
        x.minutes(6);
        said.worker("AT the last", x, 0, 33, 8, 7, 0, 0, 1, 26, -1);
        x.minutes(2);
        said.worker("all are done", x, 0, 34, 8, 8, 0, 0, 1, 26, 12);
        beyond("workerIs", of(0, 0), TWO, EIGHT);
    }

    private static void setWorker() {
        said.promise(4);
        said.says("DEPTH (what 0), AWAY (4; 0 .. 999), NOTE (5) of a WORKER becomes v: what it was.");
        TakenUp x = new TakenUp();
        x.worker(0);
        x.worker(0);
        int[][] most = {{0, 99}, {4, 999}, {5, 1}};
        for (int[] m : most) {
            said.is("the most of " + m[0], x.setWorker(1, m[0], m[1]), 0);
            said.is("it is that", x.workerIs(1, m[0]), m[1]);
            said.is("0 again", x.setWorker(1, m[0], 0), m[1]);
            said.is("it is that", x.workerIs(1, m[0]), 0);
            x.setWorker(1, m[0], m[1]);
        }
        said.worker("nothing else", x, 1, 99, 0, 0, 0, 999, 1, 0, -1);
        said.worker("another", x, 0, 0, 0, 0, 0, 0, 0, 0, -1);

        beyond("setWorker", of(0, 0, 5), TWO, ANY, new int[] {0, 99});
        said.bounds("setWorker", of(0, 4, 5), TWO, ANY, new int[] {0, 999});
        said.bounds("setWorker", of(0, 5, 0), TWO, ANY, TWO);
        for (int what : new int[] {MIN, -1, 1, 2, 3, 6, 7, 8, MAX}) {
            said.refused(Due.BEYOND, "setWorker", 0, what, 0);
        }
    }

    private static void step() {
        said.promise(5);
        said.says("One STEP more for a WORKER: how many there are (ENDS is -1 again).");
        TakenUp x = new TakenUp();
        x.worker(0);
        x.setWorker(0, 0, 40);
        said.is("the first", x.step(0, 1, 0), 1);
        x.minutes(1);
        said.is("ENDS", x.workerIs(0, 7), 0);
        said.is("the second", x.step(0, 60, 9), 2);
        said.is("ENDS", x.workerIs(0, 7), -1);
        said.is("AT it", x.workerIs(0, 2), 1);
        x.minutes(1);
        said.is("it is gone on with", x.workerIs(0, 3), 6);
        for (int i = 3; i <= 8; i++) {
            said.is("one more", x.step(0, 1, 1), i);
        }

        beyond("step", of(0, 1, 0), TWO, new int[] {1, 60}, new int[] {0, 9});
        TakenUp done = new TakenUp();
        done.worker(0);
        done.step(0, 1, 0);
        done.setWorker(0, 0, 40);
        done.minutes(1);
        said.is("BEYOND", done.step(0, 61, 0), Due.BEYOND);
        said.is("ENDS stays", done.workerIs(0, 7), 0);

        said.says("FULL.");
        said.is("the ninth", x.step(0, 1, 1), Due.FULL);
        said.refused(House::full, "step(0, 1, 0)", Due.FULL, y -> y.step(0, 1, 0));
        said.refused(House::full, "step(0, 60, 9)", Due.FULL, y -> y.step(0, 60, 9));
        said.refused(House::full, "step(0, 1, 10), BEYOND first", Due.BEYOND, y -> y.step(0, 1, 10));
        said.is("another has room", House.full().step(1, 1, 0), 2);
        Due.text(x, 1, "99");
        // 6 and 6 times 99 are 600 in MINUTE 7, then six STEPS
        x.minutes(15);
        said.is("all eight are done", x.workerIs(0, 7), 13);
        said.is("FULL, even so", x.step(0, 1, 1), Due.FULL);
        said.is("ENDS stays", x.workerIs(0, 7), 13);
    }

    private static void stepIs() {
        said.promise(6);
        said.says("Of a STEP: 0 LONG, 1 HARD.");
        TakenUp x = new TakenUp();
        x.worker(0);
        for (int i = 0; i < 8; i++) {
            x.step(0, 60 - i, 9 - i);
        }
        for (int i = 0; i < 8; i++) {
            said.is("LONG", x.stepIs(0, i, 0), 60 - i);
            said.is("HARD", x.stepIs(0, i, 1), 9 - i);
        }

        beyond("stepIs", of(0, 0, 0), TWO, new int[] {0, 2}, TWO);
        said.refused(Due.BEYOND, "stepIs", 1, 1, 0);
        said.is("without STEPS", withWorker().stepIs(0, 0, 0), Due.BEYOND);
    }

    private static TakenUp withWorker() {
        TakenUp x = new TakenUp();
        x.worker(0);
        return x;
    }

    private static void rest() {
        said.promise(7);
        said.says("A BREAK: its number.");
        TakenUp x = withWorker();
        for (int i = 0; i < 8; i++) {
            said.is("rest", x.rest(0, 0, 0, 1), i);
        }
        said.is("count(1)", x.count(1), 8);

        said.says("km: 10 times the KIND, and m.");
        for (int km = 0; km < 70; km++) {
            TakenUp y = withWorker();
            y.rest(km, 0, 999, 60);
            said.is("KIND of " + km, y.restIs(0, 0), km / 10);
            said.is("m of " + km, y.restIs(0, 1), km % 10);
        }

        beyond("rest", of(11, 0, 5, 5), new int[] {0, 69}, TWO, new int[] {0, 999}, new int[] {1, 60});
        said.is("without WORKERS", new TakenUp().rest(0, 0, 0, 1), Due.BEYOND);

        said.says("FULL.");
        said.refused(House::full, "rest(0, 0, 0, 1)", Due.FULL, y -> y.rest(0, 0, 0, 1));
        said.refused(House::full, "rest(69, 3, 999, 60)", Due.FULL, y -> y.rest(69, 3, 999, 60));
        said.refused(House::full, "rest(70, 0, 0, 1), BEYOND first", Due.BEYOND, y -> y.rest(70, 0, 0, 1));
        x.minutes(1);
        said.is("all have come, FULL even so", x.rest(0, 0, 0, 1), Due.FULL);
    }

    private static void restIs() {
        said.promise(8);
        said.says("Of a BREAK: 0 KIND, 1 m, 2 WORKER, 3 due (as told, PUT OFF or not), 4 TAKES, 5 TENTHS, 6 CAME,"
            + " 7 what it KEEPS now.");
        TakenUp x = new TakenUp();
        x.worker(0);
        x.worker(0);
        x.setWorker(1, 0, 99);
        x.rest(19, 1, 2, 60);
        x.quiet(1, 6);
        rest(x, "at first", 1, 9, 1, 2, 60, 10, 0, 40);
        x.minutes(3);
        rest(x, "PUT OFF", 1, 9, 1, 2, 60, 10, 0, 40);
        x.minutes(4);
        rest(x, "it came", 1, 9, 1, 2, 60, 10, 1, 11);

        beyond("restIs", of(0, 0), RESTS, EIGHT);
        said.is("without BREAKS", withWorker().restIs(0, 0), Due.BEYOND);
    }

    private static void rest(TakenUp x, String when, int... want) {
        for (int what = 0; what < want.length; what++) {
            said.is(when + ": restIs(0, " + what + ")", x.restIs(0, what), want[what]);
        }
    }

    private static void as() {
        said.promise(9);
        said.says("A BREAK as one of a KIND: TAKES.");
        int[][] are = {{0}, {1, 0}, {2, 0}, {3, 0}, {4, 1, 0}, {5, 2, 0}, {6, 0}};
        TakenUp x = withWorker();
        for (int kind = 0; kind < 7; kind++) {
            x.rest(10 * kind + 3, 0, 900, 60 - kind);
            for (int above : are[kind]) {
                said.is(kind + " as " + above, x.as(kind, above), 60 - kind);
            }
        }
        x.setRest(0, 0, 6);
        said.is("as what it is now", x.as(0, 6), 60);

        beyond("as", of(0, 0), RESTS, new int[] {0, 6});

        said.says("KIND: it is not of that KIND, nor of one under it.");
        x.setRest(0, 0, 0);
        for (int kind = 0; kind < 7; kind++) {
            for (int other = 0; other < 7; other++) {
                boolean is = false;
                for (int above : are[kind]) {
                    is |= above == other;
                }
                if (!is) {
                    said.is(kind + " as " + other, x.as(kind, other), Due.KIND);
                }
            }
        }
        // TOLD, ASKED, BREAK, DEEP
        said.refused(Due.KIND, "as", 0, 1);
        said.refused(Due.KIND, "as", 1, 4);
        said.refused(Due.KIND, "as", 2, 6);
        said.refused(Due.KIND, "as", 3, 5);
    }

    private static void setRest() {
        said.promise(10);
        said.says("KIND (what 0), m (1), due (3), TAKES (4), TENTHS (5) of a BREAK becomes v: what it was"
            + " (with due it is PUT OFF no more).");
        int[][] edges = {{0, 0, 6}, {1, 0, 9}, {3, 0, 999}, {4, 1, 60}, {5, 0, 10}};
        for (int[] e : edges) {
            TakenUp x = withWorker();
            x.rest(23, 0, 5, 5);
            int was = x.restIs(0, e[0]);
            said.is("the least of " + e[0], x.setRest(0, e[0], e[1]), was);
            said.is("it is that", x.restIs(0, e[0]), e[1]);
            said.is("the most", x.setRest(0, e[0], e[2]), e[1]);
            said.is("it is that", x.restIs(0, e[0]), e[2]);
            int[] others = {2, 3, 0, 5, 5, 10, 0, 0};
            for (int what = 0; what < 8; what++) {
                if (what != e[0]) {
                    said.is(what + " stays", x.restIs(0, what), others[what]);
                }
            }
        }
        for (int due : new int[] {2, 3, 999}) {
            // PUT OFF till 9, then told anew; QUIET no more
            TakenUp x = withWorker();
            x.rest(10, 0, 2, 1);
            x.quiet(1, 9);
            x.minutes(3);
            x.quiet(1, 0);
            said.is("due " + due, x.setRest(0, 3, due), 2);
            x.minutes(1);
            said.is("in 3", x.restIs(0, 6), due == 999 ? 0 : 1);
            x.minutes(6);
            said.is("in 9", x.restIs(0, 6), due == 999 ? 0 : 1);
        }

        beyond("setRest", of(1, 0, 1), RESTS, ANY, new int[] {0, 6});
        said.bounds("setRest", of(1, 1, 1), RESTS, ANY, new int[] {0, 9});
        said.bounds("setRest", of(1, 3, 1), RESTS, ANY, new int[] {0, 999});
        said.bounds("setRest", of(1, 4, 1), RESTS, ANY, new int[] {1, 60});
        said.bounds("setRest", of(1, 5, 1), RESTS, ANY, new int[] {0, 10});
        for (int what : new int[] {MIN, -1, 2, 6, 7, 8, MAX}) {
            said.refused(Due.BEYOND, "setRest", 1, what, 1);
        }
    }

    private static void quiet() {
        said.promise(11);
        said.says("QUIET: FROM (what 0), TO (1) becomes v: what it was.");
        TakenUp x = new TakenUp();
        said.is("FROM", x.quiet(0, 999), 0);
        said.is("TO", x.quiet(1, 998), 0);
        said.is("FROM", x.quiet(0, 0), 999);
        said.is("TO", x.quiet(1, 999), 998);
        said.is("FROM", x.count(5), 0);
        said.is("TO", x.count(6), 999);

        beyond("quiet", of(0, 5), TWO, new int[] {0, 999});
        said.bounds("quiet", of(1, 5), TWO, new int[] {0, 999});
    }

    private static void feed() {
        said.promise(12);
        said.says("The n lowest bytes (1 .. 8) of a word, the lowest first, come to THE TAPE: how many there are.");
        // "8-7-6-5." from the lowest on: of n bytes the value, or the FAULT, behind a 9
        long word = 0x2E352D362D372D38L;
        int[] want = {-11, 98, -13, 91, -15, 85, -17, 80, -18};
        for (int n = 1; n <= 8; n++) {
            TakenUp x = withWorker();
            x.setWorker(0, 0, 99);
            x.rest(60, 0, 900, 1);
            x.feed('9', 1);
            said.is(n + " bytes", x.feed(word, n), 1 + n);
            said.is("count(7)", x.count(7), 1 + n);
            int got = x.text(0);
            said.is("the text", got == 1 ? x.restIs(0, 7) : got, want[n]);
        }
        TakenUp x = new TakenUp();
        for (int i = 1; i <= 60; i++) {
            said.is("one more", x.feed(-1L, 1), i);
        }

        beyond("feed", of(0x31, 1), ANY, new int[] {1, 8});
        said.refused(Due.BEYOND, "feed", -1L, 0);

        said.says("FULL.");
        said.is("61", x.feed(0, 1), Due.FULL);
        said.is("68", x.feed(0, 8), Due.FULL);
        for (int n = 1; n <= 8; n++) {
            int bytes = n;
            said.refused(() -> tapeOf(61 - bytes), "feed(0, " + n + ")", Due.FULL, y -> y.feed(0, bytes));
            said.is("up to 60", tapeOf(60 - n).feed(0, n), 60);
        }
        said.refused(() -> tapeOf(60), "feed(0, 9), BEYOND first", Due.BEYOND, y -> y.feed(0, 9));
        said.refused(() -> tapeOf(60), "feed(0, 0), BEYOND first", Due.BEYOND, y -> y.feed(0, 0));
    }

    /** A House with so many bytes on THE TAPE: 1+1+1 .. */
    private static TakenUp tapeOf(int bytes) {
        TakenUp x = House.made();
        x.text(0);
        for (int i = 0; i < bytes; i++) {
            x.feed(i % 2 == 0 ? '1' : '+', 1);
        }
        return x;
    }

    private static TakenUp told() {
        TakenUp x = withWorker();
        x.setWorker(0, 0, 63);
        x.step(0, 60, 9);
        x.rest(60, 0, 900, 5);
        return x;
    }

    private static void text() {
        said.promise(13);
        said.says("THE TAPE, which is empty then, is the TEXT of a USE (0, 1), in place of one ahead: 1.");
        TakenUp x = told();
        for (int n = 1; n <= 3; n++) {
            for (int use = 0; use < 2; use++) {
                said.is("text(" + use + ")", Due.text(x, use, "" + (10 * n + use)), 1);
                said.is("THE TAPE is empty", x.count(7), 0);
            }
            said.is("LEAVES", x.restIs(0, 7), 10 * n);
            said.is("GOES", x.then(1, 0, 3), 10 * n + 1);
        }
        said.is("a long one", Due.text(x, 0, "1+".repeat(29) + "10"), 1);
        said.is("one that ends on signs", Due.text(x, 0, "!!!1"), 1);
        said.is("a short one in its place", Due.text(x, 0, "3"), 1);
        said.is("LEAVES", x.restIs(0, 7), 3);

        said.says("BEYOND (THE TAPE stays).");
        for (int use : new int[] {-1, 2, MIN, MAX}) {
            said.refused(Due.BEYOND, "text", use);
            TakenUp y = House.made();
            y.text(use);
            said.is("THE TAPE stays", y.count(7), 5);
            said.is("it is a TEXT still", y.text(0), 1);
        }

        said.says("-10 less the FAULT (no ERROR; the one ahead stays; THE TAPE is empty, too).");
        for (int use = 0; use < 2; use++) {
            said.is("an empty one", x.text(use), -10);
            said.is("a FAULT in 1", Due.text(x, use, "4x"), -11);
            said.is("THE TAPE is empty, too", x.count(7), 0);
            said.is("too early", Due.text(x, use, "5*"), -12);
            said.is("many are open", Due.text(x, use, "(((((5+"), -17);
            said.is("none is any more", Due.text(x, use, "5)"), -11);
            said.is("five are open", Due.text(x, use, "(((((5|"), -17);
            said.is("a sixth", Due.text(x, use, "!!!!!!"), -15);
            said.is("THE TAPE is empty, too", x.count(7), 0);
            said.is("a FAULT in 59", Due.text(x, use, "4+".repeat(29) + "4)"), -69);
            said.is("too early by 60", Due.text(x, use, "4+".repeat(30)), -70);
            said.is("LEAVES stays", x.restIs(0, 7), 3);
            said.is("GOES stays", x.then(1, 0, 3), 31);
        }
        for (int k = 1; k <= 6; k++) {
            said.is("no ERROR", x.told(k), 0);
        }
        TakenUp none = told();
        said.is("a FAULT", Due.text(none, 0, "("), -11);
        said.is("there is none still", none.untell(0), 0);
    }

    private static void untell() {
        said.promise(14);
        said.says("There is no TEXT of a USE any more: 1 if there was, else 0.");
        TakenUp x = told();
        said.is("none of 0", x.untell(0), 0);
        said.is("none of 1", x.untell(1), 0);
        Due.text(x, 0, "9");
        Due.text(x, 1, "9");
        said.is("one of 0", x.untell(0), 1);
        said.is("LEAVES d - t", x.restIs(0, 7), 58);
        said.is("GOES stays", x.then(1, 0, 3), 9);
        said.is("one of 1", x.untell(1), 1);
        said.is("GOES d/(h+1)+2", x.then(1, 0, 3), 8);
        said.is("no more of 0", x.untell(0), 0);
        said.is("no more of 1", x.untell(1), 0);

        beyond("untell", of(0), TWO);
    }

    /** At this MINUTE. */
    private static TakenUp at(int minute) {
        TakenUp x = House.made();
        for (int left = minute - 7; left > 0; left -= 600) {
            x.minutes(Math.min(600, left));
        }
        return x;
    }

    private static void minutes() {
        said.promise(15);
        said.says("n (1 .. 600) MINUTES go by: THE MINUTE.");
        TakenUp x = new TakenUp();
        said.is("1", x.minutes(1), 1);
        said.is("600", x.minutes(600), 601);
        said.is("to 9999", at(9399).minutes(600), 9999);
        said.is("the last", at(9998).minutes(1), 9999);

        beyond("minutes", of(1), new int[] {1, 600});

        said.says("STATE: it would be above 9999.");
        said.refused(() -> at(9999), "minutes(1)", Due.STATE, y -> y.minutes(1));
        said.refused(() -> at(9999), "minutes(600)", Due.STATE, y -> y.minutes(600));
        said.refused(() -> at(9400), "minutes(600)", Due.STATE, y -> y.minutes(600));
        said.refused(() -> at(9999), "minutes(0), BEYOND first", Due.BEYOND, y -> y.minutes(0));
        said.refused(() -> at(9999), "minutes(601), BEYOND first", Due.BEYOND, y -> y.minutes(601));
        said.refused(() -> at(9999), "minutes(MAX), BEYOND first", Due.BEYOND, y -> y.minutes(MAX));
        TakenUp last = at(9999);
        said.is("back by an IMAGE", last.restore(), 5);
        said.is("one more is fine", last.minutes(1), 6);
    }

    private static void loose() {
        said.promise(16);
        said.says("n (1 .. 600) LOOSE MINUTES: likewise.");
        TakenUp x = new TakenUp();
        said.is("1", x.loose(1), 1);
        said.is("600", x.loose(600), 601);
        said.is("to 9999", at(9399).loose(600), 9999);
        said.is("the last", at(9998).loose(1), 9999);
        TakenUp y = withWorker();
        y.step(0, 60, 0);
        y.loose(2);
        int first = 1103515245 + 12345;
        said.is("a draw a MINUTE", y.count(10), first * 1103515245 + 12345);
        said.is("as MINUTES else", y.workerIs(0, 3), 2 + 3);

        beyond("loose", of(1), new int[] {1, 600});

        said.says("STATE.");
        said.refused(() -> at(9999), "loose(1)", Due.STATE, z -> z.loose(1));
        said.refused(() -> at(9400), "loose(600)", Due.STATE, z -> z.loose(600));
        said.refused(() -> at(9999), "loose(0), BEYOND first", Due.BEYOND, z -> z.loose(0));
        said.refused(() -> at(9999), "loose(601), BEYOND first", Due.BEYOND, z -> z.loose(601));
    }

    private static void seed() {
        said.promise(17);
        said.says("z becomes v: what it was (any number).");
        TakenUp x = new TakenUp();
        int was = 1;
        for (int v : new int[] {0, -1, MAX, MIN, Due.BEYOND, Due.PARTED, -1000000000, 77}) {
            said.is("seed(" + v + ")", x.seed(v), was);
            said.is("count(10)", x.count(10), v);
            was = v;
        }
        for (int k = 1; k <= 6; k++) {
            said.is("no ERROR", x.told(k), 0);
        }
    }

    private static void then() {
        said.promise(18);
        said.says("AHEAD by n: of a WORKER what (0 .. 7) as in workerIs().");
        TakenUp x = House.made();
        for (int n : new int[] {0, 1, 600}) {
            TakenUp y = House.made();
            if (n > 0) {
                y.minutes(n);
            }
            for (int worker = 0; worker < 2; worker++) {
                for (int what = 0; what < 8; what++) {
                    said.is("then(" + n + ", " + worker + ", " + what + ")", x.then(n, worker, what), y.workerIs(worker, what));
                }
            }
        }

        beyond("then", of(5, 0, 0), AHEAD, TWO, EIGHT);
        said.is("without WORKERS", new TakenUp().then(0, 0, 0), Due.BEYOND);
    }

    private static void waits() {
        said.promise(19);
        said.says("AHEAD by n: WAITED.");
        TakenUp x = withWorker();
        x.rest(10, 0, 3, 1);
        x.rest(0, 0, 0, 1);
        x.quiet(1, 599);
        said.is("by 0", x.waits(0), 0);
        said.is("by 599", x.waits(599), 0);
        said.is("by 600", x.waits(600), 596);
        x.setRest(1, 3, 1);
        x.minutes(1);
        x.setRest(1, 3, 0);
        said.is("by 0, still", x.waits(0), 0);
        said.is("by 1", x.waits(1), 1);
        x.minutes(1);
        said.is("what WAITED so far, too", x.waits(0), 1);
        said.is("without any", new TakenUp().waits(600), 0);

        beyond("waits", of(5), AHEAD);
    }

    private static void cost() {
        said.promise(20);
        said.says("COST by n.");
        TakenUp x = told();
        Due.text(x, 1, "99");
        x.rest(0, 0, 6, 60);
        said.is("by 600", x.cost(1, 600), 60);
        said.is("by 67", x.cost(1, 67), 60);
        said.is("it never comes by then", x.cost(0, 600), 0);

        beyond("cost", of(0, 600), RESTS, AHEAD);

        said.says("STATE: it has come.");
        said.refused(Due.STATE, "cost", 2, 0);
        said.refused(Due.STATE, "cost", 2, 600);
        said.refused(Due.BEYOND, "cost", 2, 601);
        said.refused(Due.BEYOND, "cost", 2, -1);

        said.says("NONE.");
        said.is("none with it", x.cost(1, 66), Due.NONE);
        said.is("none without it either", x.cost(1, 6), Due.NONE);
        said.refused(Due.NONE, "cost", 0, 0);
        said.refused(Due.NONE, "cost", 3, 5);
        TakenUp y = withWorker();
        y.rest(0, 0, 0, 1);
        said.is("without STEPS", y.cost(0, 600), Due.NONE);
    }

    private static void refuse() {
        said.promise(21);
        said.says("REFUSE by n.");
        TakenUp x = told();
        Due.text(x, 1, "99");
        x.rest(0, 0, 6, 60);
        said.is("by 600", x.refuse(0, 600), 1);
        said.is("by 7", x.refuse(0, 7), 1);

        beyond("refuse", of(0, 600), TWO, AHEAD);
        said.is("without WORKERS", new TakenUp().refuse(0, 0), Due.BEYOND);

        said.says("NONE: there is none by which END is some MINUTE.");
        said.is("by 6", x.refuse(0, 6), Due.NONE);
        said.refused(Due.NONE, "refuse", 0, 0);
        said.refused(Due.NONE, "refuse", 1, 5);
        x.minutes(7);
        x.setRest(0, 3, 0);
        x.minutes(70);
        said.is("END is a MINUTE, but all have come", x.refuse(0, 600), Due.NONE);
        TakenUp y = withWorker();
        y.rest(0, 0, 0, 1);
        said.is("without STEPS", y.refuse(0, 600), Due.NONE);
    }

    private static void best() {
        said.promise(22);
        said.says("BEST MINUTE by n.");
        TakenUp x = told();
        Due.text(x, 1, "99");
        x.minutes(3);
        said.is("by 1", x.best(0, 1), 3);
        said.is("by 4", x.best(0, 4), 3);
        said.is("by 5", x.best(0, 5), 7);
        said.is("by 120", x.best(0, 120), 7);

        beyond("best", of(0, 120), RESTS, new int[] {1, 120});

        said.says("STATE: it has come.");
        said.refused(Due.STATE, "best", 2, 1);
        said.refused(Due.STATE, "best", 2, 120);
        said.refused(Due.BEYOND, "best", 2, 121);
        said.refused(Due.BEYOND, "best", 2, 0);

        said.says("NONE: by none is END some MINUTE.");
        said.refused(PromisesEdgesTest::withoutEnd, "best(0, 120)", Due.NONE, y -> y.best(0, 120));
        said.refused(PromisesEdgesTest::withoutEnd, "best(3, 1)", Due.NONE, y -> y.best(3, 1));
        TakenUp y = withWorker();
        y.rest(0, 0, 0, 1);
        said.is("without STEPS", y.best(0, 120), Due.NONE);
    }

    /** A House in which nothing is ever done. */
    private static TakenUp withoutEnd() {
        TakenUp x = House.made();
        x.text(0);
        Due.text(x, 1, "0");
        return x;
    }

    private static void heap() {
        said.promise(23);
        said.says("HEAP by h.");
        TakenUp x = withWorker();
        x.rest(10, 0, 3, 1);
        x.rest(40, 0, 9, 1);
        x.rest(0, 0, 3, 1);
        said.is("0", x.heap(0), 0);
        said.is("9", x.heap(9), 6);
        said.is("10", x.heap(10), 8);
        said.is("599", x.heap(599), 596 + 590);
        said.is("600", x.heap(600), 0);
        said.is("without any", new TakenUp().heap(999), 0);

        beyond("heap", of(5), new int[] {0, 999});
    }

    private static void odds() {
        said.promise(24);
        said.says("ODDS by n and t: part 0 above, 1 below the line.");
        TakenUp x = told();
        Due.text(x, 1, "99");
        x.rest(0, 0, 6, 60);
        x.setRest(1, 5, 4);
        int[][] want = {{600, 5, 0, 1}, {600, 6, 3, 5}, {600, 65, 3, 5}, {600, 66, 1, 1}, {66, 9999, 3, 5}, {67, 9999, 1, 1},
            {6, 9999, 0, 1}, {0, 0, 0, 1}};
        for (int[] w : want) {
            said.is("above by " + w[0] + ", " + w[1], x.odds(0, w[0], w[1], 0), w[2]);
            said.is("below by " + w[0] + ", " + w[1], x.odds(0, w[0], w[1], 1), w[3]);
        }

        beyond("odds", of(0, 600, 50, 0), TWO, AHEAD, new int[] {0, 9999}, TWO);
        said.is("without WORKERS", new TakenUp().odds(0, 0, 0, 0), Due.BEYOND);

        said.says("STATE: more than 6 BREAKS haven't come.");
        for (int part = 0; part < 2; part++) {
            int of = part;
            // seven of eight haven't come, all but one of WORKER 0; at first six of seven
            said.refused(House::full, "odds(0, 600, 0, " + part + ")", Due.STATE, y -> y.odds(0, 600, 0, of));
            said.refused(House::full, "odds(3, 0, 9999, " + part + ")", Due.STATE, y -> y.odds(3, 0, 9999, of));
            said.refused(House::full, "odds(0, 601, 0, 0), BEYOND first", Due.BEYOND, y -> y.odds(0, 601, 0, 0));
            said.refused(House::full, "odds(0, 0, 10000, 0), BEYOND first", Due.BEYOND, y -> y.odds(0, 0, 10000, 0));
        }
        TakenUp y = withWorker();
        for (int i = 0; i < 8; i++) {
            y.rest(0, 0, i, 1);
        }
        said.is("eight", y.odds(0, 600, 0, 1), Due.STATE);
        y.minutes(1);
        said.is("seven", y.odds(0, 600, 0, 1), Due.STATE);
        y.minutes(1);
        said.is("six", y.odds(0, 600, 0, 1), 1);
        said.is("six", y.odds(0, 600, 0, 0), 0);
    }
}
