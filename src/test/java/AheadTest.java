/** Promises 18 to 24: what lies ahead, costs, refusals, best minutes, the heap, odds. */
public final class AheadTest {
    private static final Due due = new Due();

    public static void main(String[] args) {
        then();
        waits();
        cost();
        refuse();
        best();
        heap();
        odds();
        oddsOfMany();
        nothingChanges();
        fullHouse();
        due.end();
    }

    /**
     * A STEP of 10 tenths: done by 2, 3, 4, 5 in MINUTE 3; a BREAK of 5 that comes in 1 loses the
     * DEPTH of 1, so that 2, 3, 4 more from MINUTE 6 on end it in 8.
     */
    private static TakenUp one(int km, int inMinute) {
        TakenUp x = new TakenUp();
        x.worker(0);
        x.step(0, 1, 0);
        x.rest(km, 0, inMinute, 5);
        return x;
    }

    private static void then() {
        TakenUp x = one(0, 1);
        int[][] want = {{0, 1, 0, 0, 0, 0, 0, -1}, {1, 1, 0, 2, 0, 0, 0, -1}, {0, 1, 0, 2, 4, 0, 1, -1}};
        for (int n = 0; n < want.length; n++) {
            for (int what = 0; what < 8; what++) {
                due.is("then(" + n + ", 0, " + what + ")", x.then(n, 0, what), want[n][what]);
            }
        }
        due.is("then(8, 0, 7)", x.then(8, 0, 7), -1);
        due.is("then(9, 0, 7)", x.then(9, 0, 7), 8);
        due.is("then(600, 0, 7)", x.then(600, 0, 7), 8);
        due.is("then(600, 0, 0)", x.then(600, 0, 0), 3);
        for (int[] w : new int[][] {{-1, 0, 0}, {601, 0, 0}, {0, -1, 0}, {0, 1, 0}, {0, 0, -1}, {0, 0, 8}}) {
            due.is("then(" + w[0] + ", " + w[1] + ", " + w[2] + ")", x.then(w[0], w[1], w[2]), Due.BEYOND);
        }
        // by HARD: 60/10+2, 61/10+2 of the second STEP's 20 tenths
        TakenUp h = new TakenUp();
        h.worker(0);
        h.step(0, 1, 1);
        h.step(0, 2, 9);
        h.setWorker(0, 0, 59);
        due.is("the first", h.then(1, 0, 2), 1);
        due.is("the second", h.then(2, 0, 3), 8);
        due.is("the second", h.then(3, 0, 3), 16);
        // beyond 9999
        TakenUp y = new TakenUp();
        for (int i = 0; i < 16; i++) {
            y.minutes(600);
        }
        y.minutes(399);
        y.worker(0);
        y.step(0, 1, 0);
        due.is("beyond 9999", y.then(600, 0, 7), 10002);
        due.is("now", y.count(3), 9999);
    }

    private static void waits() {
        TakenUp x = one(10, 1);
        x.rest(0, 0, 3, 1);
        x.quiet(1, 7);
        due.is("waits(0)", x.waits(0), 0);
        due.is("waits(7)", x.waits(7), 0);
        due.is("waits(8)", x.waits(8), 6);
        due.is("waits(600)", x.waits(600), 6);
        due.is("waits(-1)", x.waits(-1), Due.BEYOND);
        due.is("waits(601)", x.waits(601), Due.BEYOND);
        x.minutes(8);
        x.rest(0, 0, 0, 1);
        due.is("on top of what WAITED", x.waits(1), 14);
    }

    private static void cost() {
        TakenUp x = one(0, 1);
        due.is("cost(0, 600)", x.cost(0, 600), 5);
        due.is("cost(0, 9)", x.cost(0, 9), 5);
        due.is("none with it", x.cost(0, 8), Due.NONE);
        due.is("none without it either", x.cost(0, 3), Due.NONE);
        due.is("cost(0, 0)", x.cost(0, 0), Due.NONE);
        for (int[] w : new int[][] {{-1, 0}, {1, 0}, {0, -1}, {0, 601}}) {
            due.is("cost(" + w[0] + ", " + w[1] + ")", x.cost(w[0], w[1]), Due.BEYOND);
        }
        x.rest(0, 0, 500, 5);
        due.is("behind END", x.cost(1, 600), 0);
        x.minutes(2);
        due.is("it has come", x.cost(0, 600), Due.STATE);
        due.is("BEYOND ahead of STATE", x.cost(0, 601), Due.BEYOND);
        x.minutes(60);
        due.is("all is done", x.cost(1, 0), 0);
        // END in MINUTE 0 is an END
        TakenUp first = new TakenUp();
        first.worker(0);
        first.step(0, 1, 0);
        first.setWorker(0, 0, 50);
        first.rest(0, 0, 0, 5);
        first.rest(0, 0, 3, 5);
        due.is("with it 10, without it 0", first.cost(0, 600), 10);
        first.setRest(0, 3, 2);
        due.is("0 with and without it", first.cost(1, 600), 0);
        due.is("0 without it", first.refuse(0, 1), 0);
        odds(first, 0, 600, 0, 1, 1);
        first.minutes(1);
        due.is("refuse by 0, all is done", first.refuse(0, 0), 0);
        due.is("cost by 0, all is done", first.cost(1, 0), 0);
        due.is("best, all is done", first.best(1, 9), 1);
        // without it END is sooner than with it only if DEPTH helps: here it hurts
        TakenUp y = new TakenUp();
        y.worker(0);
        y.step(0, 9, 0);
        y.setWorker(0, 0, 90);
        Due.text(y, 1, "95-d");
        y.rest(0, 0, 0, 1);
        // with it: 45 away in 0; 50, 49 in 1, 2: 99 of 90. Without: 5, 4, 3, 2, 1, 0 ..
        due.is("never without it", y.cost(0, 600), Due.NONE);
        Due.text(y, 1, "105-d");
        // without: 15, 14, 13, 12, 11, 10, 9, 8 in 0 .. 7: 92 of 90; with: 60, 59 in 1, 2
        due.is("it brings minutes", y.cost(0, 600), -5);
    }

    private static void refuse() {
        TakenUp x = one(0, 1);
        due.is("the only one", x.refuse(0, 600), 0);
        due.is("none by which", x.refuse(0, 3), Due.NONE);
        due.is("by 4", x.refuse(0, 4), 0);
        x.rest(0, 0, 500, 9);
        x.worker(0);
        due.is("that of the cost", x.refuse(0, 600), 0);
        due.is("none of this one's", x.refuse(1, 600), Due.NONE);
        TakenUp y = new TakenUp();
        y.worker(0);
        y.worker(0);
        y.step(0, 1, 0);
        y.step(1, 1, 0);
        y.rest(0, 0, 0, 3);
        y.rest(0, 1, 0, 3);
        y.rest(0, 1, 0, 9);
        y.rest(0, 0, 0, 9);
        y.rest(0, 0, 0, 9);
        due.is("of several the least", y.refuse(0, 600), 3);
        due.is("another WORKER", y.refuse(1, 600), 2);
        y.rest(0, 1, 9, 9);
        due.is("one that never touches it", y.refuse(1, 600), 2);
        due.is("END needs 12 and 4 with 3 left out", y.refuse(0, 16), 3);
        due.is("15 are too few", y.refuse(0, 15), Due.NONE);
        for (int[] w : new int[][] {{-1, 0}, {2, 0}, {0, -1}, {0, 601}}) {
            due.is("refuse(" + w[0] + ", " + w[1] + ")", y.refuse(w[0], w[1]), Due.BEYOND);
        }
        y.minutes(1);
        due.is("all have come", y.refuse(0, 600), Due.NONE);
        due.is("one hasn't", y.refuse(1, 600), 5);
        // only those of this WORKER, be there others of lower numbers that change as little
        TakenUp u = new TakenUp();
        for (int i = 0; i < 3; i++) {
            u.worker(0);
            u.step(i, 1, 0);
        }
        for (int i = 2; i >= 0; i--) {
            u.rest(0, i, 900, 3);
        }
        for (int i = 0; i < 3; i++) {
            due.is("its own", u.refuse(i, 600), 2 - i);
        }
        // without STEPS there is no END
        TakenUp z = new TakenUp();
        z.worker(0);
        z.rest(0, 0, 0, 3);
        due.is("without STEPS", z.refuse(0, 600), Due.NONE);
    }

    private static void best() {
        TakenUp x = one(0, 1);
        // due in 0 .. 3 it ends in 8, behind the END it doesn't matter
        for (int n = 1; n <= 4; n++) {
            due.is("best(0, " + n + ")", x.best(0, n), 0);
        }
        due.is("best(0, 5)", x.best(0, 5), 4);
        due.is("best(0, 120)", x.best(0, 120), 4);
        due.is("due stays", x.restIs(0, 3), 1);
        for (int[] w : new int[][] {{-1, 1}, {1, 1}, {0, 0}, {0, -1}, {0, 121}}) {
            due.is("best(" + w[0] + ", " + w[1] + ")", x.best(w[0], w[1]), Due.BEYOND);
        }
        x.minutes(2);
        due.is("it has come", x.best(0, 1), Due.STATE);
        due.is("BEYOND ahead of STATE", x.best(0, 121), Due.BEYOND);
        // from now on
        TakenUp y = new TakenUp();
        y.worker(0);
        y.minutes(30);
        y.step(0, 1, 0);
        y.rest(0, 0, 2, 5);
        due.is("from 30 on", y.best(0, 4), 30);
        due.is("behind the END in 33", y.best(0, 5), 34);
        // a break may be good for a STEP that hates DEPTH
        TakenUp z = new TakenUp();
        z.worker(0);
        z.step(0, 9, 0);
        z.setWorker(0, 0, 90);
        z.rest(0, 0, 40, 1);
        Due.text(z, 1, "95-d");
        due.is("soonest of several", z.best(0, 9), 0);
        z.setRest(0, 0, 1);
        z.quiet(1, 3);
        due.is("put off till 3 from 0 .. 3", z.best(0, 9), 0);
        TakenUp w = new TakenUp();
        w.worker(0);
        w.rest(0, 0, 0, 1);
        due.is("without STEPS", w.best(0, 9), Due.NONE);
        w.step(0, 1, 0);
        Due.text(w, 1, "0");
        due.is("never done", w.best(0, 9), Due.NONE);
        Due.text(w, 1, "1");
        due.is("done by 1 a MINUTE", w.best(0, 9), 0);
        // PUT OFF no more, being due in another MINUTE
        TakenUp v = one(10, 0);
        v.setWorker(0, 0, 4);
        v.quiet(1, 3);
        v.minutes(1);
        v.quiet(1, 0);
        // 6 tenths are done; put off till 3 it never comes: END is 1; due in 1 it costs
        due.is("behind the END in 1", v.best(0, 3), 2);
        due.is("only 1", v.best(0, 1), 1);
    }

    private static void heap() {
        TakenUp x = new TakenUp();
        x.worker(0);
        x.rest(10, 0, 2, 1);
        x.rest(40, 0, 20, 1);
        x.rest(0, 0, 3, 1);
        x.rest(60, 0, 4, 1);
        due.is("heap(0)", x.heap(0), 0);
        due.is("heap(2)", x.heap(2), 0);
        due.is("heap(10)", x.heap(10), 8);
        due.is("heap(20)", x.heap(20), 18);
        due.is("heap(25)", x.heap(25), 28);
        due.is("heap(599)", x.heap(599), 597 + 579);
        due.is("they never come", x.heap(600), 0);
        due.is("heap(999)", x.heap(999), 0);
        due.is("heap(-1)", x.heap(-1), Due.BEYOND);
        due.is("heap(1000)", x.heap(1000), Due.BEYOND);
        // those that are PUT OFF later than that
        x.quiet(1, 100);
        x.minutes(3);
        x.quiet(1, 0);
        due.is("heap(50): 20 till 50 alone", x.heap(50), 30);
        due.is("heap(101)", x.heap(101), 1 + 81);
        // less than nothing, if what is behind never comes
        TakenUp y = new TakenUp();
        y.worker(0);
        y.minutes(100);
        y.rest(10, 0, 40, 1);
        due.is("heap(999)", y.heap(999), -60);
        due.is("heap(100)", y.heap(100), 0);
        due.is("heap(60)", y.heap(60), 0);
        due.is("heap(150)", y.heap(150), 50);
        // QUIET holds for those of the heap, too
        TakenUp z = new TakenUp();
        z.worker(0);
        z.rest(10, 0, 5, 1);
        z.quiet(0, 30);
        z.quiet(1, 60);
        due.is("heap(29)", z.heap(29), 24);
        due.is("heap(30)", z.heap(30), 55);
        due.is("heap(59)", z.heap(59), 55);
        due.is("heap(60)", z.heap(60), 55);
        z.minutes(6);
        due.is("all have come", z.heap(99), 0);
    }

    private static void odds(TakenUp x, int worker, int n, int t, long above, long below) {
        String call = "odds(" + worker + ", " + n + ", " + t + ", ";
        due.is(call + "0)", x.odds(worker, n, t, 0), above);
        due.is(call + "1)", x.odds(worker, n, t, 1), below);
    }

    private static void odds() {
        TakenUp x = one(0, 1);
        odds(x, 0, 600, 9999, 1, 1);
        odds(x, 0, 600, 7, 0, 1);
        odds(x, 0, 600, 8, 1, 1);
        x.setRest(0, 5, 3);
        odds(x, 0, 600, 2, 0, 1);
        odds(x, 0, 600, 3, 7, 10);
        odds(x, 0, 600, 7, 7, 10);
        odds(x, 0, 600, 8, 1, 1);
        odds(x, 0, 3, 9999, 0, 1);
        odds(x, 0, 4, 9999, 7, 10);
        x.setRest(0, 5, 0);
        odds(x, 0, 600, 3, 1, 1);
        x.setRest(0, 5, 5);
        odds(x, 0, 600, 3, 1, 2);
        x.setRest(0, 5, 4);
        x.rest(0, 0, 1, 2);
        x.setRest(1, 5, 5);
        // none: 3 by 30 of 100; the second alone: away in 1, 2: END is 5; the first alone: 8; both: 10
        odds(x, 0, 600, 4, 3, 10);
        odds(x, 0, 600, 5, 3, 5);
        odds(x, 0, 600, 8, 4, 5);
        odds(x, 0, 600, 9, 4, 5);
        odds(x, 0, 600, 10, 1, 1);
        int[][] wrong = {{-1, 0, 0, 0}, {1, 0, 0, 0}, {0, -1, 0, 0}, {0, 601, 0, 0}, {0, 0, -1, 0}, {0, 0, 10000, 0},
            {0, 0, 0, -1}, {0, 0, 0, 2}};
        for (int[] w : wrong) {
            due.is("odds(" + w[0] + ", " + w[1] + ", " + w[2] + ", " + w[3] + ")", x.odds(w[0], w[1], w[2], w[3]), Due.BEYOND);
        }
        // without STEPS END is no MINUTE; all done, it is one
        TakenUp y = new TakenUp();
        y.worker(0);
        odds(y, 0, 600, 9999, 0, 1);
        y.step(0, 1, 0);
        y.minutes(4);
        odds(y, 0, 0, 2, 0, 1);
        odds(y, 0, 0, 3, 1, 1);
    }

    private static void oddsOfMany() {
        TakenUp x = new TakenUp();
        x.worker(0);
        x.worker(0);
        x.step(0, 1, 0);
        x.step(1, 1, 0);
        for (int i = 0; i < 6; i++) {
            x.rest(0, 0, 0, 1);
            x.setRest(i, 5, 1);
        }
        // END is 3 and one more for each that comes
        odds(x, 0, 600, 3, 531441, 1000000);
        odds(x, 0, 600, 4, 885735 / 5, 1000000 / 5);
        odds(x, 0, 600, 8, 999999, 1000000);
        odds(x, 0, 600, 9, 1, 1);
        odds(x, 1, 600, 3, 1, 1);
        x.setRest(5, 5, 10);
        odds(x, 0, 600, 4, 59049, 100000);
        x.rest(0, 1, 0, 1);
        due.is("seven haven't come", x.odds(0, 600, 3, 0), Due.STATE);
        due.is("of others, too", x.odds(1, 600, 3, 0), Due.STATE);
        due.is("BEYOND ahead of STATE", x.odds(1, 600, 3, 2), Due.BEYOND);
        x.minutes(1);
        odds(x, 0, 600, 9, 1, 1);
        odds(x, 0, 600, 8, 0, 1);
        due.is("told(3)", x.told(3), 2);
    }

    /** As many WORKERS, STEPS, BREAKS and numbers as there may be. */
    private static void fullHouse() {
        TakenUp x = new TakenUp();
        for (int i = 0; i < 4; i++) {
            x.worker(0);
            for (int j = 0; j < 8; j++) {
                x.step(i, 1, 0);
            }
        }
        Due.text(x, 1, "10");
        for (int i = 0; i < 8; i++) {
            x.rest(10, i / 2, i, 4);
        }
        // a STEP a MINUTE: ENDS 7, and 8 more by two BREAKS; those of 3 come in 6 and 7
        int[] ends = {15, 15, 15, 15};
        for (int i = 0; i < 4; i++) {
            due.is("then(600, " + i + ", 7)", x.then(600, i, 7), ends[i]);
            due.is("refuse(" + i + ", 600)", x.refuse(i, 600), 2 * i);
            x.tell(15);
        }
        for (int i = 0; i < 8; i++) {
            due.is("cost(" + i + ", 600)", x.cost(i, 600), 4);
        }
        due.is("best(7, 9)", x.best(7, 9), 0);
        due.is("best(7, 13)", x.best(7, 13), 12);
        due.is("waits(600)", x.waits(600), 0);
        due.is("heap(7)", x.heap(7), 7 + 6 + 5 + 4 + 3 + 2 + 1);
        due.is("odds(3, 600, 15, 0)", x.odds(3, 600, 15, 0), Due.STATE);
        due.is("check()", x.check(), 0);
        for (int i = 0; i < 24; i++) {
            x.tell(i < 4 ? 15 : 0);
        }
        due.is("check() of 24", x.check(), 5);
        x.image();
        x.minutes(10);
        x.loose(10);
        for (int i = 0; i < 4; i++) {
            due.is("ENDS", x.workerIs(i, 7), 15);
        }
        due.is("draws till the last STEP", x.count(10) == 1 ? 0 : 1, 1);
        due.is("restore()", x.restore(), 0);
        due.is("no draw yet", x.count(10), 1);
        due.is("none has come", x.count(2), 8);
    }

    private static void nothingChanges() {
        TakenUp x = one(14, 1);
        x.setRest(0, 5, 5);
        x.quiet(1, 2);
        x.then(600, 0, 7);
        x.waits(600);
        x.cost(0, 600);
        x.refuse(0, 600);
        x.best(0, 120);
        x.heap(999);
        x.odds(0, 600, 9, 0);
        due.worker("as ahead", x, 0, 0, 1, 0, 0, 0, 0, 0, -1);
        due.is("m", x.restIs(0, 1), 4);
        due.is("due", x.restIs(0, 3), 1);
        due.is("CAME", x.restIs(0, 6), 0);
        due.is("THE MINUTE", x.count(3), 0);
        due.is("WAITED", x.count(4), 0);
        x.minutes(3);
        due.is("WAITED 1", x.count(4), 1);
    }
}
