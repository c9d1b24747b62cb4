/** Promises 15 to 17, and the minutes of "Terms" 3. */
public final class MinutesTest {
    private static final Due due = new Due();

    public static void main(String[] args) {
        bounds();
        work();
        comes();
        away();
        together();
        putOff();
        waited();
        held();
        wander();
        seed();
        due.end();
    }

    private static void bounds() {
        TakenUp x = new TakenUp();
        for (int n : new int[] {0, -1, 601}) {
            due.is("minutes(" + n + ")", x.minutes(n), Due.BEYOND);
            due.is("loose(" + n + ")", x.loose(n), Due.BEYOND);
        }
        due.is("minutes(1)", x.minutes(1), 1);
        due.is("loose(1)", x.loose(1), 2);
        for (int i = 1; i <= 16; i++) {
            due.is("600 more", i % 2 == 0 ? x.minutes(600) : x.loose(600), 2 + 600 * i);
        }
        due.is("398 more", x.minutes(398), Due.STATE);
        due.is("398 LOOSE more", x.loose(398), Due.STATE);
        due.is("BEYOND ahead of STATE", x.minutes(601), Due.BEYOND);
        due.is("397 more", x.minutes(397), 9999);
        due.is("1 more", x.minutes(1), Due.STATE);
        due.is("1 LOOSE more", x.loose(1), Due.STATE);
        due.is("THE MINUTE", x.count(3), 9999);
    }

    private static void work() {
        TakenUp x = new TakenUp();
        x.worker(0);
        x.worker(0);
        x.step(0, 1, 0);
        x.step(0, 2, 3);
        x.minutes(1);
        due.worker("1", x, 0, 1, 2, 0, 2, 0, 0, 0, -1);
        due.worker("without STEPS", x, 1, 0, 0, 0, 0, 0, 0, 0, -1);
        x.minutes(2);
        due.worker("3", x, 0, 3, 2, 0, 9, 0, 0, 0, -1);
        x.minutes(1);
        // 14 tenths of 10: nothing goes on to the next STEP
        due.worker("4", x, 0, 4, 2, 1, 0, 0, 0, 0, -1);
        x.minutes(6);
        // 4/4+2 .. 7/4+2, 8/4+2, 9/4+2: 3, 3, 3, 3, 4, 4: 20 of 20
        due.worker("10", x, 0, 10, 2, 2, 0, 0, 0, 0, 9);
        x.minutes(5);
        due.worker("all done", x, 0, 10, 2, 2, 0, 0, 0, 0, 9);
    }

    private static void comes() {
        TakenUp x = new TakenUp();
        x.worker(0);
        x.step(0, 60, 9);
        x.rest(0, 0, 2, 3);
        x.setWorker(0, 0, 40);
        x.minutes(2);
        due.worker("ahead of it", x, 0, 42, 1, 0, 12, 0, 0, 0, -1);
        due.is("CAME", x.restIs(0, 6), 0);
        x.minutes(1);
        due.worker("in it", x, 0, 21, 1, 0, 12, 2, 0, 21, -1);
        due.is("CAME", x.restIs(0, 6), 1);
        due.is("count(2)", x.count(2), 0);
        x.minutes(2);
        due.worker("AWAY is 0", x, 0, 21, 1, 0, 12, 0, 0, 21, -1);
        x.minutes(1);
        due.worker("behind it", x, 0, 22, 1, 0, 16, 0, 0, 21, -1);
        // one that comes when nothing is left to be done
        TakenUp y = new TakenUp();
        y.worker(0);
        y.setWorker(0, 0, 9);
        y.rest(0, 0, 0, 2);
        y.minutes(1);
        due.worker("without STEPS", y, 0, 4, 0, 0, 0, 1, 0, 5, -1);
        // all of a SEAMED one that comes at the seam
        TakenUp z = new TakenUp();
        z.worker(0);
        z.step(0, 60, 0);
        z.setWorker(0, 0, 9);
        z.rest(50, 0, 0, 1);
        z.rest(50, 0, 2, 1);
        z.minutes(1);
        due.worker("SEAMED at the seam", z, 0, 9, 1, 0, 0, 0, 0, 0, -1);
        z.minutes(2);
        due.worker("SEAMED in the midst", z, 0, 7, 1, 0, 11, 0, 0, 3, -1);
    }

    private static void away() {
        TakenUp x = new TakenUp();
        x.worker(0);
        x.worker(0);
        x.step(0, 60, 0);
        x.setWorker(0, 0, 20);
        x.setWorker(0, 4, 990);
        x.setWorker(1, 0, 20);
        x.rest(0, 0, 0, 9);
        x.rest(30, 0, 1, 60);
        x.rest(0, 1, 1, 60);
        x.minutes(1);
        due.worker("9 more", x, 0, 20, 1, 0, 0, 998, 0, 0, -1);
        x.minutes(1);
        due.worker("held at 999", x, 0, 20, 1, 0, 0, 998, 0, 0, -1);
        due.worker("another", x, 1, 10, 0, 0, 0, 59, 0, 10, -1);
        due.is("all came", x.count(2), 0);
        x.setWorker(0, 4, 1);
        x.minutes(1);
        due.worker("the last one AWAY", x, 0, 20, 1, 0, 0, 0, 0, 0, -1);
        x.minutes(1);
        due.worker("back", x, 0, 21, 1, 0, 22, 0, 0, 0, -1);
    }

    private static void together() {
        // by numbers: the first takes its share of DEPTH, the second only minutes
        int[][] want = {{15, 8, 5}, {10, 8, 10}};
        for (int first = 0; first < 2; first++) {
            TakenUp x = new TakenUp();
            x.worker(0);
            x.setWorker(0, 0, 20);
            x.rest(first == 0 ? 20 : 0, 0, 3, 4);
            x.rest(first == 0 ? 0 : 20, 0, 3, 5);
            x.minutes(4);
            due.worker("first " + first, x, 0, want[first][0], 0, 0, 0, want[first][1], 0, want[first][2], -1);
        }
    }

    private static void putOff() {
        // of all KINDS only ASKED and DEEP ones are put off
        for (int kind = 0; kind < 7; kind++) {
            TakenUp x = new TakenUp();
            x.worker(0);
            x.rest(10 * kind, 0, 5, 1);
            x.quiet(0, 5);
            x.quiet(1, 9);
            x.minutes(9);
            boolean isPutOff = kind == 1 || kind == 4;
            due.is("KIND " + kind + " CAME", x.restIs(0, 6), isPutOff ? 0 : 1);
            due.is("KIND " + kind + " is due", x.restIs(0, 3), 5);
            x.minutes(1);
            due.is("KIND " + kind + " CAME by TO", x.restIs(0, 6), 1);
            due.is("KIND " + kind + " WAITED", x.count(4), isPutOff ? 4 : 0);
        }
        // FROM itself, TO itself, and nothing between them
        int[][] quiet = {{6, 9, 1}, {5, 5, 1}, {9, 4, 1}, {0, 5, 1}, {0, 6, 0}, {5, 6, 0}};
        for (int[] q : quiet) {
            TakenUp x = new TakenUp();
            x.worker(0);
            x.rest(10, 0, 5, 1);
            x.quiet(0, q[0]);
            x.quiet(1, q[1]);
            x.minutes(6);
            due.is("QUIET " + q[0] + " .. " + q[1], x.restIs(0, 6), q[2]);
        }
        // put off once, then once more
        TakenUp x = new TakenUp();
        x.worker(0);
        x.rest(40, 0, 0, 1);
        x.quiet(1, 10);
        x.minutes(1);
        x.quiet(1, 20);
        x.minutes(10);
        due.is("put off again", x.restIs(0, 6), 0);
        x.minutes(9);
        due.is("put off again", x.restIs(0, 6), 0);
        x.minutes(1);
        due.is("by 20", x.restIs(0, 6), 1);
        due.is("WAITED 20", x.count(4), 20);
    }

    private static void waited() {
        TakenUp x = new TakenUp();
        x.worker(0);
        x.minutes(100);
        x.rest(0, 0, 40, 1);
        x.rest(60, 0, 100, 1);
        x.rest(10, 0, 99, 1);
        due.is("not yet", x.count(4), 0);
        x.minutes(1);
        due.is("60 and 0 and 1", x.count(4), 61);
        x.minutes(9);
        due.is("in all so far", x.count(4), 61);
    }

    private static void held() {
        TakenUp x = new TakenUp();
        x.worker(0);
        x.step(0, 60, 9);
        x.setWorker(0, 0, 99);
        x.minutes(2);
        due.worker("DEPTH is held at 99", x, 0, 99, 1, 0, 22, 0, 0, 0, -1);
        // LOST grows by each that comes (that it is held at 99999 no 512 calls can show)
        TakenUp y = new TakenUp();
        y.worker(0);
        for (int i = 1; i <= 8; i++) {
            y.rest(30, 0, 0, 1);
            y.setWorker(0, 0, 99);
            y.minutes(1);
            due.worker("lost so far", y, 0, 0, 0, 0, 0, 0, 0, 99 * i, -1);
        }
    }

    /** The draws as "Terms" 3 tells them. */
    private static int next(int z) {
        return z * 1103515245 + 12345;
    }

    private static void wander() {
        for (int seed = 0; seed < 200; seed++) {
            for (int hard = 0; hard <= 9; hard += 3) {
                TakenUp x = new TakenUp();
                x.worker(0);
                x.step(0, 60, hard);
                x.setWorker(0, 0, 42);
                x.seed(seed);
                x.loose(1);
                int first = next(seed);
                int second = next(first);
                boolean goesAway = (first >>> 8) % 60 < hard;
                due.is("z", x.count(10), goesAway ? second : first);
                if (goesAway) {
                    due.worker("wandered", x, 0, 31, 1, 0, 0, (second >>> 8) % 5, 0, 11, -1);
                } else {
                    due.worker("stayed", x, 0, 43, 1, 0, 42 / (hard + 1) + 2, 0, 0, 0, -1);
                }
            }
        }
        // no draw for those AWAY, or at no STEP
        TakenUp x = new TakenUp();
        x.worker(0);
        x.worker(0);
        x.worker(0);
        x.step(0, 60, 9);
        x.setWorker(0, 4, 2);
        x.step(2, 60, 0);
        x.loose(1);
        due.is("one draw", x.count(10), next(1));
        x.loose(1);
        due.is("one more", x.count(10), next(next(1)));
        x.minutes(5);
        due.is("none in MINUTES", x.count(10), next(next(1)));
        x.then(600, 0, 7);
        due.is("none AHEAD", x.count(10), next(next(1)));
        // a break comes behind the draw, to one who is AWAY by it
        int seed = 0;
        while ((next(seed) >>> 8) % 60 >= 9 || (next(next(seed)) >>> 8) % 5 != 4) {
            seed++;
        }
        TakenUp y = new TakenUp();
        y.worker(0);
        y.step(0, 60, 9);
        y.setWorker(0, 0, 80);
        y.rest(0, 0, 0, 7);
        y.seed(seed);
        y.loose(1);
        due.worker("a draw, then a break", y, 0, 60, 1, 0, 0, 11, 0, 20, -1);
    }

    private static void seed() {
        TakenUp x = new TakenUp();
        due.is("seed(-1000000001)", x.seed(-1000000001), 1);
        due.is("seed(5)", x.seed(5), -1000000001);
        due.is("count(10)", x.count(10), 5);
        due.is("seed(MAX)", x.seed(Integer.MAX_VALUE), 5);
        due.is("seed(MIN)", x.seed(Integer.MIN_VALUE), Integer.MAX_VALUE);
        due.is("seed(0)", x.seed(0), Integer.MIN_VALUE);
        due.is("no ERROR", x.told(1), 0);
    }
}
