/** Promises 27 to 32: sheets, what is moved, steps from them, logs. */
public final class SheetsTest {
    private static final Due due = new Due();

    public static void main(String[] args) {
        sheet();
        put();
        move();
        steps();
        off();
        offSigns();
        fits();
        due.end();
    }

    private static void sheet() {
        TakenUp x = new TakenUp();
        for (int bits : new int[] {8, 16, 32}) {
            due.is("sheet(3, " + bits + ", 24)", x.sheet(3, bits, 24), 1);
            due.is("put(3, 23, 1)", x.put(3, 23, 1), 1);
            due.is("sheet(3, " + bits + ", 25)", x.sheet(3, bits, 25), Due.BEYOND);
            due.is("sheet(3, " + bits + ", -1)", x.sheet(3, bits, -1), Due.STATE);
            due.is("sheet(3, " + bits + ", MIN)", x.sheet(3, bits, Integer.MIN_VALUE), Due.STATE);
            due.is("still there", x.put(3, 23, 1), 1);
            due.is("sheet(3, " + bits + ", 0)", x.sheet(3, bits, 0), 1);
            due.is("put(3, 0, 1)", x.put(3, 0, 1), Due.BEYOND);
        }
        for (int bits : new int[] {-8, 1, 7, 9, 24, 64}) {
            due.is("sheet(0, " + bits + ", 1)", x.sheet(0, bits, 1), Due.BEYOND);
            due.is("BEYOND of bits ahead of STATE", x.sheet(0, bits, -1), Due.BEYOND);
        }
        for (int sheet : new int[] {-1, 4}) {
            due.is("sheet(" + sheet + ", 8, 1)", x.sheet(sheet, 8, 1), Due.BEYOND);
            due.is("sheet(" + sheet + ", 0, 1)", x.sheet(sheet, 0, 1), Due.BEYOND);
            due.is("BEYOND ahead of STATE", x.sheet(sheet, 8, -1), Due.BEYOND);
        }
        due.is("missing ones are NONE", x.put(0, 0, 0), Due.NONE);
        for (int n : new int[] {-1, 0, 24, 25, Integer.MAX_VALUE}) {
            x.sheet(1, 8, 3);
            due.is("sheet(1, 0, " + n + ")", x.sheet(1, 0, n), 1);
            due.is("missing", x.put(1, 0, 0), Due.NONE);
        }
        // anew: all 0
        x.worker(0);
        x.sheet(0, 32, 3);
        x.put(0, 0, 5);
        x.put(0, 2, 5);
        due.is("5 and 0 and 5", x.off(0, 0), 10);
        x.sheet(0, 32, 3);
        due.is("anew", x.off(0, 0), 0);
        x.put(0, 2, 5);
        x.sheet(0, 32, 2);
        x.sheet(0, 32, 24);
        due.is("anew, longer", x.off(0, 0), 0);
    }

    private static void put() {
        TakenUp x = new TakenUp();
        x.sheet(0, 8, 2);
        due.is("put(0, 0, 1)", x.put(0, 0, 1), 1);
        due.is("put(0, 1, 1)", x.put(0, 1, 1), 1);
        due.is("put(0, 2, 1)", x.put(0, 2, 1), Due.BEYOND);
        due.is("put(0, -1, 1)", x.put(0, -1, 1), Due.BEYOND);
        due.is("put(4, 0, 1)", x.put(4, 0, 1), Due.BEYOND);
        due.is("put(-1, 0, 1)", x.put(-1, 0, 1), Due.BEYOND);
        due.is("NONE ahead of BEYOND of i", x.put(1, -1, 1), Due.NONE);
    }

    /** The numbers of SHEET 0, seen as the OFF of a WORKER without DEPTH, one by one in SHEET 3. */
    private static void numbers(String when, TakenUp x, int sheet, int bits, int... want) {
        for (int i = 0; i < want.length; i++) {
            x.sheet(3, bits, 1);
            x.move(sheet, i, 3, 0, 1);
            due.is(when + ": number " + i, x.off(3, 0), want[i]);
        }
    }

    private static TakenUp counting(int bits) {
        TakenUp x = new TakenUp();
        x.worker(0);
        x.sheet(0, bits, 6);
        x.sheet(1, bits, 4);
        for (int i = 0; i < 6; i++) {
            x.put(0, i, 11 + i);
        }
        for (int i = 0; i < 4; i++) {
            x.put(1, i, 1 + i);
        }
        return x;
    }

    private static void move() {
        for (int bits : new int[] {8, 16, 32}) {
            TakenUp x = counting(bits);
            due.is("to another", x.move(0, 1, 1, 2, 2), 2);
            numbers("to another", x, 1, bits, 1, 2, 12, 13);
            numbers("from one", x, 0, bits, 11, 12, 13, 14, 15, 16);
            x = counting(bits);
            due.is("the same, up", x.move(0, 0, 0, 2, 4), 4);
            numbers("the same, up", x, 0, bits, 11, 12, 11, 12, 13, 14);
            x = counting(bits);
            due.is("the same, down", x.move(0, 1, 0, 0, 5), 5);
            numbers("the same, down", x, 0, bits, 12, 13, 14, 15, 16, 16);
            due.is("all of it", x.move(1, 0, 0, 2, 4), 4);
            due.is("none", x.move(1, 4, 0, 6, 0), 0);
            numbers("all of it", x, 0, bits, 12, 13, 1, 2, 3, 4);
        }
        TakenUp x = counting(8);
        int[][] beyond = {{-1, 0, 0, 0, 0}, {4, 0, 0, 0, 0}, {0, 0, -1, 0, 0}, {0, 0, 4, 0, 0}, {2, 0, 4, 0, 0},
            {0, -1, 1, 0, 1}, {0, 0, 1, -1, 1}, {0, 0, 1, 0, -1}, {0, 0, 1, 0, 5}, {0, 4, 1, 0, 3}, {0, 0, 1, 3, 2},
            {0, 7, 1, 0, 0}, {0, 0, 1, 5, 0}, {0, 1, 1, 0, Integer.MAX_VALUE}, {0, Integer.MAX_VALUE, 1, 0, 1},
            {0, 0, 1, Integer.MAX_VALUE, 1}};
        for (int[] b : beyond) {
            due.is("move(" + b[0] + ", " + b[1] + ", " + b[2] + ", " + b[3] + ", " + b[4] + ")",
                x.move(b[0], b[1], b[2], b[3], b[4]), Due.BEYOND);
        }
        due.is("NONE, ahead of BEYOND of n", x.move(0, 0, 2, 0, -1), Due.NONE);
        due.is("NONE", x.move(2, 0, 0, 0, 0), Due.NONE);
        x.sheet(2, 16, 4);
        due.is("KIND, ahead of BEYOND of n", x.move(0, 0, 2, 0, -1), Due.KIND);
        due.is("KIND", x.move(2, 0, 1, 0, 1), Due.KIND);
        numbers("nothing moved", x, 0, 8, 11, 12, 13, 14, 15, 16);
    }

    private static int steps(TakenUp x, int... numbers) {
        x.sheet(0, 32, numbers.length);
        for (int i = 0; i < numbers.length; i++) {
            x.put(0, i, numbers[i]);
        }
        return x.steps(0, 0);
    }

    private static void steps() {
        TakenUp x = new TakenUp();
        x.worker(0);
        due.is("none", steps(x), 0);
        due.is("not whole", steps(x, 5), 0);
        due.is("one and a half", steps(x, 5, 6, 7), 1);
        due.is("stepIs(0, 0, 0)", x.stepIs(0, 0, 0), 5);
        due.is("stepIs(0, 0, 1)", x.stepIs(0, 0, 1), 6);
        due.is("LONG 0", steps(x, 0, 6), 0);
        due.is("LONG 61", steps(x, 61, 6, 1, 1), 0);
        due.is("HARD -1", steps(x, 1, -1, 1, 1), 0);
        due.is("HARD 10", steps(x, 60, 9, 1, 0, 1, 10, 1, 1), 2);
        due.is("workerIs(0, 1)", x.workerIs(0, 1), 3);
        due.is("stepIs(0, 1, 0)", x.stepIs(0, 1, 0), 60);
        due.is("stepIs(0, 2, 1)", x.stepIs(0, 2, 1), 0);
        due.is("up to the eighth", steps(x, 4, 4, 5, 5, 6, 6, 7, 7, 8, 8, 9, 9, 9, 9), 5);
        due.is("stepIs(0, 7, 0)", x.stepIs(0, 7, 0), 8);
        due.is("no more", steps(x, 4, 4), 0);
        due.is("no ERROR", x.told(1) + x.told(4), 0);
        due.is("no such SHEET", x.steps(4, 0), Due.BEYOND);
        due.is("no such SHEET", x.steps(-1, 0), Due.BEYOND);
        due.is("no such WORKER", x.steps(0, 1), Due.BEYOND);
        due.is("BEYOND ahead of NONE", x.steps(1, 1), Due.BEYOND);
        due.is("NONE", x.steps(1, 0), Due.NONE);
        // ENDS is -1 again, but not if none came
        TakenUp y = new TakenUp();
        y.worker(0);
        due.is("one", steps(y, 1, 0), 1);
        y.minutes(4);
        due.is("refused", steps(y, 0, 0), 0);
        due.is("ENDS", y.workerIs(0, 7), 3);
        due.is("one more", steps(y, 1, 0), 1);
        due.is("ENDS", y.workerIs(0, 7), -1);
    }

    private static void off() {
        TakenUp x = new TakenUp();
        x.worker(0);
        x.worker(0);
        x.step(0, 60, 9);
        x.setWorker(0, 0, 10);
        x.rest(0, 0, 2, 2);
        // 11, 12, 6, 6, 7
        x.sheet(0, 16, 5);
        int[] depths = {11, 12, 6, 6, 7};
        for (int i = 0; i < 5; i++) {
            x.put(0, i, depths[i]);
        }
        due.is("as they are", x.off(0, 0), 0);
        due.is("another WORKER's", x.off(0, 1), 42);
        x.put(0, 0, 14);
        x.put(0, 2, 1);
        due.is("3 and 5", x.off(0, 0), 8);
        x.put(0, 4, 1007);
        due.is("1000", x.off(0, 0), 1008);
        x.put(0, 4, 1008);
        due.is("held at 1000", x.off(0, 0), 1008);
        x.put(0, 4, 1006);
        due.is("999", x.off(0, 0), 1007);
        due.is("DEPTH stays", x.workerIs(0, 0), 10);
        due.is("THE MINUTE stays", x.count(3), 0);
        x.sheet(1, 32, 24);
        for (int i = 0; i < 24; i++) {
            x.put(1, i, i % 2 == 0 ? Integer.MIN_VALUE : Integer.MAX_VALUE);
        }
        due.is("24 of 1000", x.off(1, 0), 24000);
        x.sheet(1, 32, 0);
        due.is("no numbers", x.off(1, 0), 0);
        due.is("no such SHEET", x.off(4, 0), Due.BEYOND);
        due.is("no such WORKER", x.off(0, 2), Due.BEYOND);
        due.is("no such WORKER", x.off(2, -1), Due.BEYOND);
        due.is("NONE", x.off(2, 0), Due.NONE);
    }

    /** A number is what its lowest bits are as a byte, a short, an int. */
    private static void offSigns() {
        int[][] want = {{8, 127, 127}, {8, 128, 128}, {8, 255, 1}, {8, -1, 1}, {8, 256, 0}, {8, 300, 44}, {8, -128, 128},
            {16, 999, 999}, {16, 32768, 1000}, {16, 65535, 1}, {16, 65536 + 7, 7}, {16, -7, 7}, {32, -7, 7}, {32, 65536, 1000}};
        for (int[] w : want) {
            TakenUp x = new TakenUp();
            x.worker(0);
            x.sheet(0, w[0], 1);
            x.put(0, 0, w[1]);
            due.is(w[1] + " in " + w[0] + " bits", x.off(0, 0), w[2]);
        }
    }

    private static void fits() {
        for (int m = 0; m <= 9; m++) {
            TakenUp x = new TakenUp();
            x.worker(0);
            x.step(0, 60, 9);
            x.setWorker(0, 0, 40);
            x.rest(10 + 9 - m, 0, 1, 2);
            // 41, then 20 - m, 20 - m, 21 - m
            x.sheet(0, 8, 4);
            x.put(0, 0, 41);
            x.put(0, 1, 20 - m);
            x.put(0, 2, 20 - m);
            x.put(0, 3, 21 - m);
            due.is("fits(0, 0)", x.fits(0, 0), m);
            due.is("m stays", x.restIs(0, 1), 9 - m);
            x.put(0, 2, 24 - m);
            x.put(0, 3, 0);
            due.is("still the least", x.fits(0, 0), m);
        }
        TakenUp x = new TakenUp();
        x.worker(0);
        x.setWorker(0, 0, 6);
        x.rest(15, 0, 0, 2);
        x.rest(5, 0, 0, 2);
        x.sheet(0, 8, 2);
        // 3 - m, not below 0: from 3 on all are the same
        due.is("of several the least", x.fits(0, 0), 3);
        due.is("m doesn't matter", x.fits(0, 1), 0);
        x.minutes(1);
        due.is("it has come", x.fits(0, 0), 0);
        x.sheet(1, 8, 0);
        due.is("no numbers", x.fits(1, 0), 0);
        due.is("no such SHEET", x.fits(4, 0), Due.BEYOND);
        due.is("no such SHEET", x.fits(-1, 0), Due.BEYOND);
        due.is("no such BREAK", x.fits(0, 2), Due.BEYOND);
        due.is("BEYOND ahead of NONE", x.fits(2, 2), Due.BEYOND);
        due.is("NONE", x.fits(2, 0), Due.NONE);
    }
}
