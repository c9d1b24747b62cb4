import java.io.IOException;

/** Each sentence of "Terms" 4 to 6. */
public final class AheadEdgesTest {
    private static Said said;

    public static void main(String[] args) throws IOException {
        said = new Said();
        said.term(4);
        ahead();
        end();
        cost();
        refuse();
        best();
        heap();
        odds();
        log();
        fits();
        said.term(5);
        voices();
        bodies();
        bodiesUnder();
        owners();
        trace();
        said.term(6);
        sheets();
        said.end();
    }

    // ---- 4: what lies ahead

    /** A STEP of 10 tenths, which takes so many MINUTES by a GOES of 1 .. 10. */
    private static TakenUp goes(int tenths) {
        TakenUp x = new TakenUp();
        x.worker(0);
        x.step(0, 1, 0);
        Due.text(x, 1, "" + tenths);
        return x;
    }

    /** At THE MINUTE 9999. */
    private static TakenUp late(int tenths) {
        TakenUp x = goes(tenths);
        x.setWorker(0, 4, 0);
        for (int i = 0; i < 16; i++) {
            x.minutes(600);
        }
        x.minutes(399);
        x.step(0, 1, 0);
        return x;
    }

    private static void ahead() {
        said.says("AHEAD by n (0 .. 600) MINUTES: as they would go by (beyond 9999, too).");
        TakenUp x = House.made();
        said.is("by 0", x.then(0, 0, 0), x.workerIs(0, 0));
        said.is("by -1", x.then(-1, 0, 0), Due.BEYOND);
        said.is("by 601", x.then(601, 0, 0), Due.BEYOND);
        said.is("waits by -1", x.waits(-1), Due.BEYOND);
        said.is("waits by 601", x.waits(601), Due.BEYOND);
        for (int n : new int[] {1, 2, 22, 23, 24, 33, 34, 600}) {
            TakenUp y = House.made();
            y.minutes(n);
            for (int worker = 0; worker < 2; worker++) {
                for (int what = 0; what < 8; what++) {
                    String call = "then(" + n + ", " + worker + ", " + what + ")";
                    said.is(call, x.then(n, worker, what), y.workerIs(worker, what));
                }
            }
            said.is("waits(" + n + ")", x.waits(n), y.count(4));
        }
        // no LOOSE MINUTES, and nothing goes by
        said.is("no draw", x.count(10), 77);
        said.is("THE MINUTE", x.count(3), 7);
        TakenUp late = late(1);
        said.is("in 9999", late.count(3), 9999);
        said.is("beyond 9999, not yet", late.then(9, 0, 7), -1);
        said.is("beyond 9999", late.then(10, 0, 7), 10008);
        late.rest(0, 0, 999, 1);
        said.is("a BREAK by then", late.then(600, 0, 7), 10009);
        said.is("it waits", late.waits(1), 9000);
    }

    private static void end() {
        said.says("END by n of a WORKER: ENDS, AHEAD by n.");
        TakenUp x = goes(1);
        said.is("by 9", x.then(9, 0, 7), -1);
        said.is("by 10", x.then(10, 0, 7), 9);
        x.rest(0, 0, 900, 1);
        said.is("cost by 9", x.cost(0, 9), Due.NONE);
        said.is("cost by 10", x.cost(0, 10), 0);
        said.is("refuse by 9", x.refuse(0, 9), Due.NONE);
        said.is("refuse by 10", x.refuse(0, 10), 0);
        said.is("odds by 9", x.odds(0, 9, 9999, 0), 0);
        said.is("odds by 10", x.odds(0, 10, 9999, 0), 1);
        x.minutes(10);
        said.is("all is done: by 0", x.then(0, 0, 7), 9);
        said.is("cost by 0", x.cost(0, 0), 0);
        x.step(0, 60, 0);
        said.is("by 599", x.then(599, 0, 7), -1);
        said.is("by 600", x.then(600, 0, 7), 609);
    }

    private static void cost() {
        said.says("COST of a BREAK (that hasn't come) by n: END of its WORKER by n less that without this BREAK"
            + " (as if it had come; NONE, if one of both is none).");
        for (int takes : new int[] {1, 60}) {
            TakenUp x = goes(5);
            x.rest(0, 0, 1, takes);
            said.is("as much as it TAKES", x.cost(0, 600), takes);
            said.is("none with it", x.cost(0, takes + 1), Due.NONE);
            said.is("both are", x.cost(0, takes + 2), takes);
            said.is("none of both", x.cost(0, 1), Due.NONE);
            x.setRest(0, 3, 2);
            said.is("behind END", x.cost(0, 2), 0);
            x.setRest(0, 3, 0);
            x.minutes(1);
            said.is("it has come", x.cost(0, 600), Due.STATE);
        }
        // none without it alone: only one who falls back by it ends
        TakenUp x = goes(5);
        Due.text(x, 1, "(d<20)*10");
        x.setWorker(0, 0, 20);
        x.rest(0, 0, 3, 1);
        said.is("with it", x.then(600, 0, 7), 4);
        said.is("none without it", x.cost(0, 600), Due.NONE);
        // without it another one takes its share of DEPTH
        TakenUp y = goes(5);
        Due.text(y, 1, "d");
        y.setWorker(0, 0, 8);
        y.rest(0, 0, 0, 1);
        y.rest(30, 0, 0, 1);
        // with both: 4 in 2, 5, 6: END 4; with the second alone: 0 in 1, 1, 2, 3, 4 in 5: END 5
        said.is("less than nothing", y.cost(0, 600), -1);
        TakenUp z = endsAtOnce();
        said.is("5 less 0", z.cost(0, 600), 5);
        z.setRest(0, 3, 900);
        said.is("0 less 0", z.cost(1, 600), 0);
        z.setRest(0, 3, 0);
        Due.text(z, 1, "(d=0)*10");
        z.setWorker(0, 0, 1);
        said.is("0 with it, none without it", z.cost(0, 600), Due.NONE);
    }

    /** END in MINUTE 0 is some MINUTE. */
    private static TakenUp endsAtOnce() {
        TakenUp x = goes(10);
        x.rest(0, 0, 0, 5);
        x.rest(0, 0, 900, 5);
        return x;
    }

    private static void refuse() {
        said.says("REFUSE by n for a WORKER: the BREAK (of this one's that haven't come) without which END by n is soonest;"
            + " of several the least.");
        TakenUp x = goes(5);
        x.worker(0);
        said.is("there is none", x.refuse(0, 600), Due.NONE);
        x.rest(0, 1, 0, 60);
        said.is("of another's", x.refuse(0, 600), Due.NONE);
        x.rest(0, 0, 1, 7);
        x.rest(0, 0, 1, 8);
        x.rest(0, 0, 1, 8);
        x.rest(0, 0, 1, 2);
        said.is("the first of both by 8", x.refuse(0, 600), 2);
        said.is("by which one ends", x.refuse(0, 19), 2);
        said.is("by which none ends", x.refuse(0, 18), Due.NONE);
        said.is("one without STEPS", x.refuse(1, 600), Due.NONE);
        // those of others don't count, be they the least and change as little
        TakenUp y = new TakenUp();
        for (int i = 0; i < 4; i++) {
            y.worker(0);
            y.step(i, 1, 0);
        }
        for (int i = 0; i < 8; i++) {
            y.rest(0, 3 - i % 4, 900, 1);
        }
        for (int i = 0; i < 4; i++) {
            said.is("its own", y.refuse(i, 600), 3 - i);
        }
        said.is("END 0", endsAtOnce().refuse(0, 1), 0);
        x.setRest(2, 3, 0);
        x.minutes(1);
        said.is("one has come", x.refuse(0, 600), 3);
        x.minutes(1);
        said.is("all have come", x.refuse(0, 600), Due.NONE);
    }

    private static void best() {
        said.says("BEST MINUTE by n (1 .. 120) for a BREAK that hasn't come: the MINUTE from now on (n of them) in which,"
            + " being due, it makes END by 600 of its WORKER soonest; of several the soonest.");
        TakenUp x = goes(1);
        x.rest(0, 0, 500, 3);
        said.is("by 0", x.best(0, 0), Due.BEYOND);
        said.is("by 121", x.best(0, 121), Due.BEYOND);
        said.is("by 1", x.best(0, 1), 0);
        said.is("the soonest of ten", x.best(0, 10), 0);
        said.is("behind END", x.best(0, 11), 10);
        said.is("by 120", x.best(0, 120), 10);
        x.minutes(4);
        said.is("from now on", x.best(0, 6), 4);
        said.is("behind END", x.best(0, 7), 10);
        x.step(0, 12, 0);
        // 10 and 120 tenths from 4 on end in 129; in 123, the 120th, it costs
        said.is("the last of 120", x.best(0, 120), 4);
        x.minutes(7);
        said.is("the last of 119", x.best(0, 119), 11);
        said.is("the 120th", x.best(0, 120), 130);
        // END by 600: 599 MINUTES of work and 1 away
        TakenUp y = new TakenUp();
        y.worker(0);
        y.step(0, 60, 0);
        Due.text(y, 1, "1");
        y.rest(0, 0, 500, 1);
        said.is("in none of 120", y.best(0, 120), Due.NONE);
        y.minutes(1);
        said.is("in the first", y.best(0, 120), 1);
        y.setRest(0, 3, 0);
        y.minutes(1);
        said.is("it has come", y.best(0, 1), Due.STATE);
        said.is("END 5 by 0, else END 0", endsAtOnce().best(0, 2), 1);
        said.is("END 0 without any", endsAtOnce().best(1, 2), 0);
        // beyond 999, where none could be told to be due
        TakenUp late = late(1);
        late.rest(0, 0, 999, 1);
        said.is("beyond 9999", late.best(0, 120), 10009);
        said.is("now", late.best(0, 10), 9999);
    }

    private static void heap() {
        said.says("HEAP by h (0 .. 999): what WAITED would be AHEAD by 600, if all ASKED and DEEP ones that haven't come"
            + " were PUT OFF till h (but those that are due, or PUT OFF, later than that), less what it is AHEAD by 600.");
        TakenUp x = new TakenUp();
        x.worker(0);
        for (int kind = 0; kind < 7; kind++) {
            x.rest(10 * kind, 0, 20, 1);
        }
        said.is("-1", x.heap(-1), Due.BEYOND);
        said.is("1000", x.heap(1000), Due.BEYOND);
        said.is("0", x.heap(0), 0);
        said.is("19", x.heap(19), 0);
        said.is("20", x.heap(20), 0);
        said.is("21", x.heap(21), 2);
        said.is("599", x.heap(599), 2 * 579);
        said.is("600", x.heap(600), 0);
        said.is("999", x.heap(999), 0);
        x.setRest(1, 3, 30);
        said.is("one is due later", x.heap(25), 5);
        said.is("one is due then", x.heap(30), 10);
        said.is("both ahead of it", x.heap(31), 12);
        x.quiet(1, 50);
        said.is("both are PUT OFF till 50 in any case", x.heap(31), 0);
        said.is("till 50", x.heap(50), 0);
        said.is("till 51", x.heap(51), 2);
        x.minutes(21);
        x.quiet(1, 0);
        said.is("one is PUT OFF till 50 by now", x.heap(40), 10);
        said.is("and later than that", x.heap(60), 10 + 30);
        x.minutes(30);
        said.is("all have come", x.heap(999), 0);
        // those that were due ahead of now come now, if they aren't PUT OFF
        TakenUp y = new TakenUp();
        y.worker(0);
        y.minutes(400);
        y.rest(10, 0, 100, 1);
        said.is("till now", y.heap(400), 0);
        said.is("till a MINUTE that is gone", y.heap(399), 0);
        said.is("till 401", y.heap(401), 1);
        said.is("till 999", y.heap(999), 599);
        TakenUp z = new TakenUp();
        z.worker(0);
        z.minutes(399);
        z.rest(10, 0, 100, 1);
        said.is("till 999 from 399 on: it never comes", z.heap(999), -299);
    }

    private static void isOdds(TakenUp x, int n, int t, long above, long below) {
        said.is("odds(0, " + n + ", " + t + ", 0)", x.odds(0, n, t, 0), above);
        said.is("odds(0, " + n + ", " + t + ", 1)", x.odds(0, n, t, 1), below);
    }

    private static void odds() {
        said.says("ODDS by n and a MINUTE t (0 .. 9999) of a WORKER: with what odds END by n is t or sooner, if each BREAK"
            + " that hasn't come comes by TENTHS (else never), apart from each other: a fraction in lowest terms"
            + " (by 10 to the power of how many BREAKS haven't come; 6 at most).");
        TakenUp x = goes(5);
        x.rest(0, 0, 0, 1);
        said.is("t -1", x.odds(0, 600, -1, 0), Due.BEYOND);
        said.is("t 10000", x.odds(0, 600, 10000, 0), Due.BEYOND);
        said.is("part -1", x.odds(0, 600, 0, -1), Due.BEYOND);
        said.is("part 2", x.odds(0, 600, 0, 2), Due.BEYOND);
        isOdds(x, 600, 0, 0, 1);
        isOdds(x, 600, 1, 0, 1);
        isOdds(x, 600, 2, 1, 1);
        isOdds(x, 600, 9999, 1, 1);
        isOdds(x, 2, 9999, 0, 1);
        isOdds(x, 3, 9999, 1, 1);
        long[][] lowest = {{1, 1}, {9, 10}, {4, 5}, {7, 10}, {3, 5}, {1, 2}, {2, 5}, {3, 10}, {1, 5}, {1, 10}, {0, 1}};
        for (int tenths = 0; tenths <= 10; tenths++) {
            x.setRest(0, 5, tenths);
            isOdds(x, 600, 1, lowest[tenths][0], lowest[tenths][1]);
        }
        // six, each by 9 tenths, a MINUTE each: none comes by 1 of 1000000
        for (int i = 1; i < 6; i++) {
            x.rest(0, 0, 0, 1);
        }
        for (int i = 0; i < 6; i++) {
            x.setRest(i, 5, 9);
        }
        isOdds(x, 600, 1, 1, 1000000);
        // 1 and 6 times 9 of 1000000
        isOdds(x, 600, 2, 11, 200000);
        isOdds(x, 600, 6, 1000000 - 531441, 1000000);
        isOdds(x, 600, 7, 1, 1);
        isOdds(x, 2, 7, 1, 1000000);
        x.rest(0, 0, 999, 1);
        said.is("seven", x.odds(0, 600, 1, 0), Due.STATE);
        x.setRest(6, 5, 0);
        said.is("seven, of which one never comes", x.odds(0, 600, 1, 1), Due.STATE);
        x.setRest(6, 3, 0);
        x.minutes(1);
        isOdds(x, 600, 9999, 1, 1);
        none();
    }

    private static void none() {
        isOdds(endsAtOnce(), 600, 0, 0, 1);
        TakenUp once = endsAtOnce();
        once.setRest(0, 5, 0);
        isOdds(once, 1, 0, 1, 1);
        once.setRest(0, 5, 2);
        isOdds(once, 600, 0, 4, 5);
        // nothing hasn't come
        TakenUp x = goes(5);
        isOdds(x, 600, 0, 0, 1);
        isOdds(x, 600, 1, 1, 1);
        // no END at all; one that is behind
        TakenUp y = goes(0);
        isOdds(y, 600, 9999, 0, 1);
        x.minutes(2);
        isOdds(x, 0, 1, 1, 1);
        isOdds(x, 0, 0, 0, 1);
        // beyond 9999 it is no t
        TakenUp late = late(10);
        isOdds(late, 1, 9999, 1, 1);
        late.setWorker(0, 4, 1);
        isOdds(late, 600, 9999, 0, 1);
    }

    private static void log() {
        said.says("A LOG: a SHEET whose numbers are DEPTHS of a WORKER behind 1, 2, .. MINUTES AHEAD: OFF: differences"
            + " without sign, each held at 1000, together.");
        TakenUp x = new TakenUp();
        x.worker(0);
        x.step(0, 60, 9);
        x.setWorker(0, 0, 97);
        x.rest(0, 0, 3, 1);
        x.sheet(0, 32, 5);
        int[] depths = {98, 99, 99, 49, 50};
        for (int i = 0; i < 5; i++) {
            said.is("still to put", x.off(0, 0) > 0 ? 1 : 0, 1);
            x.put(0, i, depths[i]);
        }
        said.is("as they are", x.off(0, 0), 0);
        int[][] off = {{49, 0}, {50, 1}, {48, 1}, {-1, 50}, {1048, 999}, {1049, 1000}, {1050, 1000}, {-950, 999},
            {-951, 1000}, {-952, 1000}, {Integer.MAX_VALUE, 1000}, {Integer.MIN_VALUE, 1000}, {-2147483600, 1000}};
        for (int[] o : off) {
            x.put(0, 3, o[0]);
            said.is(o[0] + " for 49", x.off(0, 0), o[1]);
        }
        x.put(0, 3, 45);
        x.put(0, 4, 60);
        said.is("4 and 10 together", x.off(0, 0), 14);
        x.sheet(1, 8, 0);
        said.is("no numbers", x.off(1, 0), 0);
        x.sheet(1, 8, 1);
        x.put(1, 0, 98);
        said.is("behind 1 MINUTE", x.off(1, 0), 0);
        x.sheet(2, 16, 24);
        for (int i = 0; i < 24; i++) {
            x.put(2, i, -32768);
        }
        said.is("24 times 1000", x.off(2, 0), 24000);
    }

    private static void fits() {
        said.says("FITS for a BREAK: its m (0 .. 9) by which a LOG of its WORKER is OFF least; of several the least.");
        TakenUp x = new TakenUp();
        x.worker(0);
        x.worker(0);
        x.setWorker(1, 0, 40);
        x.rest(10, 0, 900, 1);
        x.rest(15, 1, 0, 1);
        x.sheet(0, 8, 1);
        for (int m = 0; m <= 9; m++) {
            x.put(0, 0, 20 - m);
            said.is("20 less " + m, x.fits(0, 1), m);
        }
        x.put(0, 0, 21);
        said.is("nearest to 0", x.fits(0, 1), 0);
        x.put(0, 0, 10);
        said.is("nearest to 9", x.fits(0, 1), 9);
        said.is("no m matters to it", x.fits(0, 0), 0);
        x.put(0, 0, -128);
        said.is("the farther, the better", x.fits(0, 1), 9);
        // 20 - m and 20 - m: 15 and 18 are as far from 2 as from 5 and all between
        x.sheet(0, 8, 2);
        x.put(0, 0, 15);
        x.put(0, 1, 18);
        said.is("of several the least", x.fits(0, 1), 2);
        said.is("m stays", x.restIs(1, 1), 5);
        x.sheet(0, 32, 2);
        x.put(0, 0, 9999);
        x.put(0, 1, -9999);
        said.is("all are held at 1000", x.fits(0, 1), 0);
        x.sheet(0, 32, 0);
        said.is("no numbers", x.fits(0, 1), 0);
    }

    // ---- 5: voices

    private static final int BREAKS = 0;
    private static final int ASKS = 1;
    private static final int HOLDS = 2;
    private static final int PARTS = 3;
    private static final int MAX = Integer.MAX_VALUE;
    private static final int MIN = Integer.MIN_VALUE;

    /** A VOICE of BREAK k of a KIND, with m; others stand ahead of it. */
    private static TakenUp speaker(int kind, int m, int k) {
        TakenUp x = new TakenUp();
        x.worker(0);
        for (int i = 0; i < k; i++) {
            x.rest(0, 0, 900, 1);
        }
        x.rest(10 * kind + m, 0, 900, 1);
        return x;
    }

    private static void voice(String call, int kind, int m, int k, int voice, int x, int want, int... trace) {
        TakenUp speaker = speaker(kind, m, k);
        said.is(call, speaker.voice(k, voice, x), want);
        said.is(call + ": count(9)", speaker.count(9), trace.length);
        for (int i = 0; i < trace.length; i++) {
            said.is(call + ": body(" + i + ")", speaker.body(i), trace[i]);
        }
    }

    private static void voices() {
        said.says("VOICES of a BREAK, with a number x (ints that wrap); k is its number, m as told: 0 breaks, 1 asks,"
            + " 2 holds, 3 parts.");
        voice("breaks wraps", 0, 9, 7, BREAKS, MAX, MIN + 6, 10);
        voice("asks wraps", 0, 9, 7, ASKS, MAX, 12, 11, 10);
        voice("holds wraps", 0, 9, 0, HOLDS, MIN, -9, 12, 11, 10);
        voice("parts by -1 wraps", 0, 0, 1, PARTS, MIN, MIN, 13);
        voice("parts by 9", 0, 9, 0, PARTS, 80, 8, 13);
        TakenUp x = speaker(0, 3, 2);
        x.setRest(2, 1, 4);
        said.is("m as told now", x.voice(2, PARTS, 9), 4);
        said.is("VOICE -1", x.voice(2, -1, 0), Due.BEYOND);
        said.is("VOICE 4", x.voice(2, 4, 0), Due.BEYOND);
        said.is("BREAK 3", x.voice(3, 0, 0), Due.BEYOND);
        said.is("BREAK -1", x.voice(-1, 0, 0), Due.BEYOND);
    }

    private static void bodies() {
        said.says("BODIES: BREAK: 10 breaks: x + k.");
        voice("10", 0, 5, 0, BREAKS, 7, 7, 10);
        voice("10", 0, 5, 3, BREAKS, -7, -4, 10);

        said.says("11 asks: breaks(x) * 2.");
        voice("11", 0, 5, 3, ASKS, 7, 20, 11, 10);
        voice("11 of ASKED", 1, 5, 3, ASKS, 7, 4, 11, 20, 10);

        said.says("12 holds: asks(x) - m.");
        voice("12", 0, 5, 3, HOLDS, 7, 15, 12, 11, 10);
        voice("12, m 0", 0, 0, 3, HOLDS, 7, 20, 12, 11, 10);

        said.says("13 parts: x by (m - k), cut (PARTED if that is 0; that is all that voice() answers then).");
        voice("by 2", 0, 5, 3, PARTS, 7, 3, 13);
        voice("-7 by 2", 0, 5, 3, PARTS, -7, -3, 13);
        voice("by -2", 0, 1, 3, PARTS, 7, -3, 13);
        voice("by 1", 0, 4, 3, PARTS, MIN, MIN, 13);
        voice("by -1", 0, 2, 3, PARTS, MIN, MIN, 13);
        for (int kind = 0; kind < 7; kind++) {
            for (int x : new int[] {0, 7, MIN}) {
                TakenUp speaker = speaker(kind, 3, 3);
                said.is("by 0, KIND " + kind, speaker.voice(3, PARTS, x), Due.PARTED);
                said.is("told(6)", speaker.told(6), 1);
            }
        }
    }

    private static void bodiesUnder() {
        said.says("ASKED: 20 breaks: super.breaks(x) - 8.");
        voice("20", 1, 5, 3, BREAKS, 7, 2, 20, 10);
        voice("20 wraps", 1, 5, 0, BREAKS, MIN, MAX - 7, 20, 10);

        said.says("21 parts: super.parts(x) + asks(1).");
        voice("21", 1, 5, 3, PARTS, 100, 50 - 8, 21, 13, 11, 20, 10);
        voice("21 wraps", 1, 8, 7, PARTS, MAX, MAX, 21, 13, 11, 20, 10);
        voice("21 wraps down", 1, 2, 1, PARTS, MIN, MAX - 11, 21, 13, 11, 20, 10);

        said.says("SELF: 30 asks: 0 - super.asks(x).");
        voice("30", 2, 5, 3, ASKS, 7, -20, 30, 11, 10);
        voice("30 of MIN wraps", 2, 5, 0, ASKS, MIN / 2, MIN, 30, 11, 10);

        said.says("DUE: 40 holds: super.holds(x / 2).");
        voice("40", 3, 5, 3, HOLDS, 7, 7, 40, 12, 11, 10);
        voice("40 of -7", 3, 5, 3, HOLDS, -7, -5, 40, 12, 11, 10);
        voice("40 of -1", 3, 5, 3, HOLDS, -1, 1, 40, 12, 11, 10);

        said.says("DEEP: 50 breaks: super.breaks(x) * 3.");
        voice("50", 4, 5, 3, BREAKS, 7, 6, 50, 20, 10);
        voice("50 wraps", 4, 5, 0, BREAKS, MAX, (MAX - 8) * 3, 50, 20, 10);

        said.says("51 holds: super.holds(x) ^ k.");
        voice("51", 4, 5, 3, HOLDS, 7, 7 ^ 3, 51, 12, 11, 50, 20, 10);
        voice("51 below 0", 4, 9, 7, HOLDS, 0, (-6 - 9) ^ 7, 51, 12, 11, 50, 20, 10);

        said.says("SEAMED: 60 asks: super.asks(x + 1).");
        voice("60", 5, 5, 3, ASKS, 7, -22, 60, 30, 11, 10);
        voice("60 wraps", 5, 5, 0, ASKS, MAX, 0, 60, 30, 11, 10);

        said.says("TOLD: 70 breaks: 3.");
        voice("70", 6, 5, 3, BREAKS, 7, 3, 70);
        voice("70 of MIN", 6, 5, 3, BREAKS, MIN, 3, 70);

        said.says("71 asks: super.asks(x) + m.");
        voice("71", 6, 5, 3, ASKS, 7, 11, 71, 11, 70);
        voice("71, m 0", 6, 0, 3, ASKS, 7, 6, 71, 11, 70);
    }

    private static void owners() {
        said.says("breaks(..) is the BODY of its KIND, or of the next KIND above that has one; super.breaks(..) that from the"
            + " KIND above the BODY's on.");
        int[][][] traces = {
            {{10}, {11, 10}, {12, 11, 10}, {13}},
            {{20, 10}, {11, 20, 10}, {12, 11, 20, 10}, {21, 13, 11, 20, 10}},
            {{10}, {30, 11, 10}, {12, 30, 11, 10}, {13}},
            {{10}, {11, 10}, {40, 12, 11, 10}, {13}},
            {{50, 20, 10}, {11, 50, 20, 10}, {51, 12, 11, 50, 20, 10}, {21, 13, 11, 50, 20, 10}},
            {{10}, {60, 30, 11, 10}, {12, 60, 30, 11, 10}, {13}},
            {{70}, {71, 11, 70}, {12, 71, 11, 70}, {13}},
        };
        int[][] answers = {{7, 14, 13, 7}, {-1, -2, -3, 7 - 14}, {7, -14, -15, 7}, {7, 14, 5, 7}, {-3, -6, -7, 7 - 42},
            {7, -16, -17, 7}, {3, 7, 6, 7}};
        for (int kind = 0; kind < 7; kind++) {
            for (int voice = 0; voice < 4; voice++) {
                voice("KIND " + kind + ", VOICE " + voice, kind, 1, 0, voice, 7, answers[kind][voice], traces[kind][voice]);
            }
        }
    }

    private static void trace() {
        said.says("THE TRACE: the numbers of BODIES of the latest voice(), as they began (what stands left is worked out"
            + " first), the first 30.");
        TakenUp x = speaker(4, 3, 2);
        said.is("none at first", x.body(0), Due.NONE);
        said.is("none at first", x.count(9), 0);
        x.voice(2, HOLDS, 1);
        said.is("six, the most that there are", x.count(9), 6);
        said.is("the last", x.body(5), 10);
        said.is("one more", x.body(6), Due.NONE);
        said.is("the 30th", x.body(29), Due.NONE);
        x.voice(2, PARTS, 1);
        int[] left = {21, 13, 11, 50, 20, 10};
        for (int i = 0; i < left.length; i++) {
            said.is("what stands left first: body(" + i + ")", x.body(i), left[i]);
        }
        x.voice(0, BREAKS, 1);
        said.is("the latest alone", x.count(9), 1);
        said.is("the latest alone", x.body(1), Due.NONE);
        x.setRest(2, 1, 2);
        said.is("PARTED", x.voice(2, PARTS, 1), Due.PARTED);
        said.is("the latest, PARTED", x.body(0), 21);
        said.is("the latest, PARTED", x.body(1), 13);
        said.is("no more began", x.body(2), Due.NONE);
        said.is("BEYOND", x.voice(2, 4, 1), Due.BEYOND);
        said.is("the latest is that still", x.body(1), 13);
    }

    // ---- 6: sheets

    private static void sheets() {
        said.says("SHEETS 0 .. 3 are rows of 8, 16, 32 bits, at most 24 numbers, or missing (as at first).");
        TakenUp x = new TakenUp();
        for (int sheet = 0; sheet < 4; sheet++) {
            said.is("missing at first", x.put(sheet, 0, 0), Due.NONE);
        }
        for (int sheet : new int[] {-1, 4}) {
            said.is("no SHEET " + sheet, x.put(sheet, 0, 0), Due.BEYOND);
            said.is("no SHEET " + sheet, x.sheet(sheet, 8, 1), Due.BEYOND);
        }
        for (int bits = -1; bits <= 65; bits++) {
            boolean is = bits == 0 || bits == 8 || bits == 16 || bits == 32;
            said.is(bits + " bits", x.sheet(3, bits, 24), is ? 1 : Due.BEYOND);
        }
        said.is("24 numbers", x.put(3, 23, 1), 1);
        said.is("25", x.sheet(3, 32, 25), Due.BEYOND);
        said.is("24 still", x.put(3, 23, 1), 1);
        said.is("no 25th", x.put(3, 24, 1), Due.BEYOND);
        said.is("no number at all", x.sheet(0, 8, 0), 1);
        said.is("no first", x.put(0, 0, 1), Due.BEYOND);
        said.is("missing", x.sheet(3, 0, 24), 1);
        said.is("missing", x.put(3, 0, 1), Due.NONE);
    }
}
