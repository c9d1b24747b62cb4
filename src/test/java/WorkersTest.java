/** Promises 1 to 6: a new object, workers and their steps. */
public final class WorkersTest {
    private static final Due due = new Due();

    public static void main(String[] args) {
        newObject();
        workers();
        setWorker();
        steps();
        stepIs();
        due.end();
    }

    private static void newObject() {
        TakenUp x = new TakenUp();
        for (int what = 0; what <= 9; what++) {
            due.is("new: count(" + what + ")", x.count(what), 0);
        }
        due.is("new: count(10)", x.count(10), 1);
        due.is("new: restore()", x.restore(), Due.NONE);
        due.is("new: body(0)", x.body(0), Due.NONE);
        due.is("new: untell(0)", x.untell(0), 0);
        due.is("new: untell(1)", x.untell(1), 0);
        for (int sheet = 0; sheet < 4; sheet++) {
            due.is("new: put(" + sheet + ", 0, 0)", x.put(sheet, 0, 0), Due.NONE);
        }
        due.is("new: workerIs(0, 0)", x.workerIs(0, 0), Due.BEYOND);
        due.is("new: restIs(0, 0)", x.restIs(0, 0), Due.BEYOND);
        due.is("new: told(4)", x.told(4), 0);
        due.is("new: told(2)", x.told(2), 6);
        due.is("another: told(2)", new TakenUp().told(2), 0);
    }

    private static void workers() {
        TakenUp x = new TakenUp();
        due.is("worker(-1)", x.worker(-1), Due.BEYOND);
        due.is("worker(2)", x.worker(2), Due.BEYOND);
        due.is("worker(0)", x.worker(0), 0);
        due.is("worker(1)", x.worker(1), 1);
        due.worker("a new one", x, 0, 0, 0, 0, 0, 0, 0, 0, -1);
        due.worker("a new one with a note", x, 1, 0, 0, 0, 0, 0, 1, 0, -1);
        due.is("workerIs(0, -1)", x.workerIs(0, -1), Due.BEYOND);
        due.is("workerIs(0, 8)", x.workerIs(0, 8), Due.BEYOND);
        due.is("workerIs(-1, 0)", x.workerIs(-1, 0), Due.BEYOND);
        due.is("workerIs(2, 0)", x.workerIs(2, 0), Due.BEYOND);
        due.is("third", x.worker(0), 2);
        due.is("fourth", x.worker(0), 3);
        due.is("fifth", x.worker(0), Due.FULL);
        due.is("BEYOND ahead of FULL", x.worker(7), Due.BEYOND);
        due.is("count(0)", x.count(0), 4);
        x.setWorker(3, 0, 99);
        due.is("workerIs(3, 0)", x.workerIs(3, 0), 99);
        due.is("workerIs(2, 0)", x.workerIs(2, 0), 0);
        due.is("workerIs(4, 0)", x.workerIs(4, 0), Due.BEYOND);
    }

    private static void setWorker() {
        TakenUp x = new TakenUp();
        x.worker(1);
        due.is("DEPTH 99", x.setWorker(0, 0, 99), 0);
        due.is("DEPTH 0", x.setWorker(0, 0, 0), 99);
        due.is("DEPTH -1", x.setWorker(0, 0, -1), Due.BEYOND);
        due.is("DEPTH 100", x.setWorker(0, 0, 100), Due.BEYOND);
        due.is("DEPTH 41", x.setWorker(0, 0, 41), 0);
        due.is("AWAY 999", x.setWorker(0, 4, 999), 0);
        due.is("AWAY 1000", x.setWorker(0, 4, 1000), Due.BEYOND);
        due.is("AWAY -1", x.setWorker(0, 4, -1), Due.BEYOND);
        due.is("AWAY 0", x.setWorker(0, 4, 0), 999);
        due.is("AWAY 7", x.setWorker(0, 4, 7), 0);
        due.is("NOTE 0", x.setWorker(0, 5, 0), 1);
        due.is("NOTE 2", x.setWorker(0, 5, 2), Due.BEYOND);
        due.is("NOTE -1", x.setWorker(0, 5, -1), Due.BEYOND);
        for (int what : new int[] {-1, 1, 2, 3, 6, 7, 8}) {
            due.is("setWorker(0, " + what + ", 0)", x.setWorker(0, what, 0), Due.BEYOND);
        }
        due.is("setWorker(1, 0, 0)", x.setWorker(1, 0, 0), Due.BEYOND);
        due.is("setWorker(-1, 0, 0)", x.setWorker(-1, 0, 0), Due.BEYOND);
        due.worker("set", x, 0, 41, 0, 0, 0, 7, 0, 0, -1);
    }

    private static void steps() {
        TakenUp x = new TakenUp();
        due.is("no WORKER", x.step(0, 1, 0), Due.BEYOND);
        x.worker(0);
        for (int[] wrong : new int[][] {{0, 0}, {61, 0}, {-1, 0}, {1, -1}, {1, 10}}) {
            due.is("step(0, " + wrong[0] + ", " + wrong[1] + ")", x.step(0, wrong[0], wrong[1]), Due.BEYOND);
        }
        due.is("step(-1, 1, 0)", x.step(-1, 1, 0), Due.BEYOND);
        due.is("step(0, 1, 0)", x.step(0, 1, 0), 1);
        // 2, 3, 4, 5 tenths: done in MINUTE 3
        x.minutes(4);
        due.worker("all are done", x, 0, 4, 1, 1, 0, 0, 0, 0, 3);
        due.is("a BEYOND one leaves ENDS", x.step(0, 61, 0), Due.BEYOND);
        due.worker("still", x, 0, 4, 1, 1, 0, 0, 0, 0, 3);
        due.is("one more", x.step(0, 60, 9), 2);
        due.worker("not all", x, 0, 4, 2, 1, 0, 0, 0, 0, -1);
        for (int i = 3; i <= 8; i++) {
            due.is("step " + i, x.step(0, i, 1), i);
        }
        due.is("ninth", x.step(0, 1, 1), Due.FULL);
        due.is("BEYOND ahead of FULL", x.step(0, 0, 1), Due.BEYOND);
        due.worker("eight", x, 0, 4, 8, 1, 0, 0, 0, 0, -1);
        TakenUp full = new TakenUp();
        full.worker(0);
        for (int i = 1; i <= 8; i++) {
            full.step(0, 1, 0);
        }
        full.setWorker(0, 0, 50);
        full.minutes(8);
        due.worker("eight done", full, 0, 58, 8, 8, 0, 0, 0, 0, 7);
        due.is("FULL leaves ENDS", full.step(0, 1, 0), Due.FULL);
        due.is("ENDS", full.workerIs(0, 7), 7);
    }

    private static void stepIs() {
        TakenUp x = new TakenUp();
        x.worker(0);
        x.worker(0);
        x.step(0, 60, 0);
        x.step(0, 1, 9);
        x.step(1, 33, 4);
        due.is("stepIs(0, 0, 0)", x.stepIs(0, 0, 0), 60);
        due.is("stepIs(0, 0, 1)", x.stepIs(0, 0, 1), 0);
        due.is("stepIs(0, 1, 0)", x.stepIs(0, 1, 0), 1);
        due.is("stepIs(0, 1, 1)", x.stepIs(0, 1, 1), 9);
        due.is("stepIs(1, 0, 0)", x.stepIs(1, 0, 0), 33);
        due.is("stepIs(1, 0, 1)", x.stepIs(1, 0, 1), 4);
        for (int[] wrong : new int[][] {{1, 1, 0}, {0, 2, 0}, {0, -1, 0}, {0, 0, -1}, {0, 0, 2}, {2, 0, 0}, {-1, 0, 0}}) {
            due.is("stepIs(" + wrong[0] + ", " + wrong[1] + ", " + wrong[2] + ")",
                x.stepIs(wrong[0], wrong[1], wrong[2]), Due.BEYOND);
        }
    }
}
