/** Promises 7 to 11: breaks, their kinds, what they keep, quiet. */
public final class BreaksTest {
    private static final Due due = new Due();
    private static final String[] NAMES = {"BREAK", "ASKED", "SELF", "DUE", "DEEP", "SEAMED", "TOLD"};

    public static void main(String[] args) {
        rest();
        restIs();
        keeps();
        keepsByDone();
        keepsHeld();
        as();
        setRest();
        quiet();
        due.end();
    }

    private static void rest() {
        TakenUp x = new TakenUp();
        due.is("no WORKER", x.rest(0, 0, 0, 1), Due.BEYOND);
        x.worker(0);
        int[][] wrong = {{-1, 0, 0, 1}, {70, 0, 0, 1}, {0, -1, 0, 1}, {0, 1, 0, 1}, {0, 0, -1, 1}, {0, 0, 1000, 1},
            {0, 0, 0, 0}, {0, 0, 0, 61}, {0, 0, 0, -1}};
        for (int[] w : wrong) {
            due.is("rest(" + w[0] + ", " + w[1] + ", " + w[2] + ", " + w[3] + ")", x.rest(w[0], w[1], w[2], w[3]), Due.BEYOND);
        }
        due.is("count(1)", x.count(1), 0);
        due.is("rest(0, 0, 0, 1)", x.rest(0, 0, 0, 1), 0);
        due.is("rest(69, 0, 999, 60)", x.rest(69, 0, 999, 60), 1);
        for (int i = 2; i < 8; i++) {
            due.is("rest " + i, x.rest(0, 0, 5, 5), i);
        }
        due.is("ninth", x.rest(0, 0, 5, 5), Due.FULL);
        due.is("BEYOND ahead of FULL", x.rest(70, 0, 5, 5), Due.BEYOND);
        due.is("count(1), eight", x.count(1), 8);
        due.is("count(2), eight", x.count(2), 8);
    }

    private static void restIs() {
        TakenUp x = new TakenUp();
        x.worker(0);
        x.worker(0);
        x.rest(0, 0, 0, 1);
        x.rest(69, 1, 999, 60);
        x.rest(37, 1, 12, 8);
        int[][] want = {{0, 0, 0, 0, 1, 10, 0, 0}, {6, 9, 1, 999, 60, 10, 0, 0}, {3, 7, 1, 12, 8, 10, 0, 0}};
        for (int i = 0; i < want.length; i++) {
            for (int what = 0; what < 8; what++) {
                due.is("restIs(" + i + ", " + what + ")", x.restIs(i, what), want[i][what]);
            }
        }
        due.is("restIs(0, -1)", x.restIs(0, -1), Due.BEYOND);
        due.is("restIs(0, 8)", x.restIs(0, 8), Due.BEYOND);
        due.is("restIs(3, 0)", x.restIs(3, 0), Due.BEYOND);
        due.is("restIs(-1, 0)", x.restIs(-1, 0), Due.BEYOND);
        x.minutes(1);
        due.is("CAME", x.restIs(0, 6), 1);
        due.is("not CAME", x.restIs(1, 6), 0);
    }

    private static void keeps() {
        // DEPTH 41, m 3, TAKES 6; without and with a NOTE at a seam, then in the midst of a STEP
        int[][] want = {{20, 17, 30, 0, 17, 41, 35}, {20, 17, 30, 23, 17, 41, 35}, {20, 17, 30, 0, 8, 30, 35}};
        for (int round = 0; round < 3; round++) {
            TakenUp x = new TakenUp();
            x.worker(round == 1 ? 1 : 0);
            for (int kind = 0; kind < 7; kind++) {
                x.rest(10 * kind + 3, 0, 999, 6);
            }
            if (round == 2) {
                x.step(0, 60, 9);
                x.minutes(1);
                due.is("DONE", x.workerIs(0, 3), 2);
            }
            x.setWorker(0, 0, 41);
            for (int kind = 0; kind < 7; kind++) {
                due.is(NAMES[kind] + " keeps, round " + round, x.restIs(kind, 7), want[round][kind]);
            }
        }
    }

    private static void keepsByDone() {
        TakenUp x = new TakenUp();
        x.worker(0);
        x.step(0, 60, 9);
        Due.text(x, 1, "1");
        x.rest(43, 0, 999, 6);
        x.rest(53, 0, 999, 6);
        x.setWorker(0, 0, 41);
        due.is("DEEP, DONE 0", x.restIs(0, 7), 17);
        due.is("SEAMED, DONE 0", x.restIs(1, 7), 41);
        x.minutes(1);
        x.setWorker(0, 0, 41);
        due.is("DEEP, DONE 1", x.restIs(0, 7), 8);
        due.is("SEAMED, DONE 1", x.restIs(1, 7), 30);
    }

    private static void keepsHeld() {
        TakenUp x = new TakenUp();
        x.worker(1);
        x.setWorker(0, 0, 4);
        x.rest(19, 0, 999, 60);
        due.is("ASKED, not below 0", x.restIs(0, 7), 0);
        x.setRest(0, 0, 4);
        due.is("DEEP, not below 0", x.restIs(0, 7), 0);
        x.setRest(0, 0, 3);
        due.is("DUE, not above DEPTH", x.restIs(0, 7), 4);
        x.setRest(0, 0, 6);
        due.is("TOLD, not below 0", x.restIs(0, 7), 0);
        due.is("text", Due.text(x, 0, "d+1"), 1);
        due.is("TOLD, not above DEPTH", x.restIs(0, 7), 4);
        due.is("text", Due.text(x, 0, "t*1000+n*100+m*10+d-9999*6-178"), 1);
        x.setRest(0, 1, 7);
        due.is("TOLD by d, t, n, m", x.restIs(0, 7), 2);
        due.is("DEPTH stays", x.workerIs(0, 0), 4);
        due.is("LOST stays", x.workerIs(0, 6), 0);
    }

    private static void as() {
        // a row a KIND: of which KINDS it is
        int[][] is = {{1, 0, 0, 0, 0, 0, 0}, {1, 1, 0, 0, 0, 0, 0}, {1, 0, 1, 0, 0, 0, 0}, {1, 0, 0, 1, 0, 0, 0},
            {1, 1, 0, 0, 1, 0, 0}, {1, 0, 1, 0, 0, 1, 0}, {1, 0, 0, 0, 0, 0, 1}};
        TakenUp x = new TakenUp();
        x.worker(0);
        for (int kind = 0; kind < 7; kind++) {
            x.rest(10 * kind, 0, 0, 11 + kind);
        }
        int kinds = 0;
        for (int kind = 0; kind < 7; kind++) {
            for (int other = 0; other < 7; other++) {
                due.is(NAMES[kind] + " as " + NAMES[other], x.as(kind, other), is[kind][other] == 1 ? 11 + kind : Due.KIND);
                kinds += 1 - is[kind][other];
            }
        }
        due.is("told(5)", x.told(5), kinds);
        due.is("as(7, 0)", x.as(7, 0), Due.BEYOND);
        due.is("as(-1, 0)", x.as(-1, 0), Due.BEYOND);
        due.is("as(0, -1)", x.as(0, -1), Due.BEYOND);
        due.is("as(0, 7)", x.as(0, 7), Due.BEYOND);
    }

    private static void setRest() {
        TakenUp x = new TakenUp();
        x.worker(0);
        x.rest(12, 0, 30, 6);
        int[][] edges = {{0, 0, 6}, {1, 0, 9}, {3, 0, 999}, {4, 1, 60}, {5, 0, 10}};
        int[] was = {1, 2, 0, 30, 6, 10};
        for (int[] e : edges) {
            String call = "setRest(0, " + e[0] + ", ";
            due.is(call + e[1] + ")", x.setRest(0, e[0], e[1]), was[e[0]]);
            due.is(call + e[2] + ")", x.setRest(0, e[0], e[2]), e[1]);
            due.is(call + (e[1] - 1) + ")", x.setRest(0, e[0], e[1] - 1), Due.BEYOND);
            due.is(call + (e[2] + 1) + ")", x.setRest(0, e[0], e[2] + 1), Due.BEYOND);
            due.is("restIs(0, " + e[0] + ")", x.restIs(0, e[0]), e[2]);
        }
        for (int what : new int[] {-1, 2, 6, 7, 8}) {
            due.is("setRest(0, " + what + ", 0)", x.setRest(0, what, 0), Due.BEYOND);
        }
        due.is("setRest(1, 1, 0)", x.setRest(1, 1, 0), Due.BEYOND);
        due.is("setRest(-1, 1, 0)", x.setRest(-1, 1, 0), Due.BEYOND);
        // PUT OFF till 50 by MINUTE 10; told anew, it is due in 10 and comes as soon as it isn't QUIET
        TakenUp y = new TakenUp();
        y.worker(0);
        y.rest(10, 0, 10, 6);
        y.quiet(1, 50);
        y.minutes(11);
        y.quiet(1, 0);
        y.minutes(1);
        due.is("still PUT OFF", y.restIs(0, 6), 0);
        due.is("with the same due", y.setRest(0, 3, 10), 10);
        y.minutes(1);
        due.is("PUT OFF no more", y.restIs(0, 6), 1);
        due.is("WAITED", y.count(4), 2);
        // PUT OFF stays with all other numbers
        TakenUp z = new TakenUp();
        z.worker(0);
        z.rest(10, 0, 10, 6);
        z.quiet(1, 50);
        z.minutes(11);
        z.quiet(1, 0);
        z.setRest(0, 0, 0);
        z.setRest(0, 1, 4);
        z.setRest(0, 4, 9);
        z.setRest(0, 5, 3);
        z.minutes(39);
        due.is("PUT OFF till 50", z.restIs(0, 6), 0);
        z.minutes(1);
        due.is("in 50", z.restIs(0, 6), 1);
    }

    private static void quiet() {
        TakenUp x = new TakenUp();
        due.is("quiet(0, 999)", x.quiet(0, 999), 0);
        due.is("quiet(1, 7)", x.quiet(1, 7), 0);
        due.is("quiet(0, 3)", x.quiet(0, 3), 999);
        due.is("quiet(1, 0)", x.quiet(1, 0), 7);
        for (int[] wrong : new int[][] {{-1, 0}, {2, 0}, {0, -1}, {0, 1000}, {1, -1}, {1, 1000}}) {
            due.is("quiet(" + wrong[0] + ", " + wrong[1] + ")", x.quiet(wrong[0], wrong[1]), Due.BEYOND);
        }
        due.is("FROM", x.count(5), 3);
        due.is("TO", x.count(6), 0);
    }
}
