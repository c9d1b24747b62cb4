/** Promises 33 to 38: images, what waits to be checked, counts, what was told. */
public final class KeptTest {
    private static final Due due = new Due();

    public static void main(String[] args) {
        image();
        waitsInTheImage();
        numbersTakenAgain();
        notInTheImage();
        tell();
        check();
        count();
        told();
        due.end();
    }

    private static void image() {
        TakenUp x = new TakenUp();
        due.is("restore()", x.restore(), Due.NONE);
        x.worker(1);
        x.step(0, 30, 4);
        x.setWorker(0, 0, 50);
        x.rest(12, 0, 1, 5);
        x.rest(67, 0, 99, 6);
        x.quiet(0, 1);
        x.quiet(1, 9);
        x.seed(77);
        Due.text(x, 0, "d-9");
        Due.text(x, 1, "7");
        Due.feed(x, "d+1");
        x.tell(31);
        x.tell(-1);
        x.minutes(3);
        due.is("image()", x.image(), 1);
        due.is("kept", x.then(600, 0, 7), 47);
        x.worker(0);
        x.step(0, 1, 9);
        x.step(1, 1, 9);
        x.setWorker(0, 0, 3);
        x.setWorker(0, 5, 0);
        x.rest(0, 1, 7, 7);
        x.setRest(0, 0, 5);
        x.setRest(0, 1, 5);
        x.setRest(0, 3, 5);
        x.setRest(1, 4, 9);
        x.setRest(1, 5, 2);
        x.quiet(0, 2);
        x.quiet(1, 3);
        x.seed(5);
        x.text(0);
        x.untell(1);
        x.check();
        x.loose(60);
        Due.feed(x, "((9");
        x.tell(8);
        due.is("restore()", x.restore(), 3);
        due.worker("as it was", x, 0, 53, 1, 0, 21, 0, 1, 0, -1);
        due.is("one WORKER", x.workerIs(1, 0), Due.BEYOND);
        due.is("its STEP", x.stepIs(0, 0, 0) * 10 + x.stepIs(0, 0, 1), 304);
        int[][] rests = {{1, 2, 0, 1, 5, 10, 0, 24}, {6, 7, 0, 99, 6, 10, 0, 44}};
        for (int i = 0; i < 2; i++) {
            for (int what = 0; what < 8; what++) {
                due.is("restIs(" + i + ", " + what + ")", x.restIs(i, what), rests[i][what]);
            }
        }
        int[] counts = {1, 2, 2, 3, 0, 1, 9, 3, 2, 0, 77};
        for (int what = 0; what < counts.length; what++) {
            due.is("count(" + what + ")", x.count(what), counts[what]);
        }
        due.is("END", x.then(600, 0, 7), 47);
        due.is("PUT OFF", x.then(6, 0, 4) + x.then(7, 0, 4), 4);
        due.is("the numbers that wait", x.check(), 1);
        due.is("THE TAPE", x.text(0), 1);
        due.is("d+1", x.restIs(1, 7), 53);
        // it stays, in place of one ahead
        due.is("restore() again", x.restore(), 3);
        due.is("d-9", x.restIs(1, 7), 44);
        due.is("both numbers", x.tell(47), 3);
        x.check();
        x.minutes(5);
        due.is("image()", x.image(), 2);
        x.minutes(5);
        due.is("the latest", x.restore(), 8);
        due.is("how often isn't in it", x.image(), 3);
    }

    private static void waitsInTheImage() {
        TakenUp x = new TakenUp();
        x.worker(0);
        x.step(0, 1, 9);
        x.step(0, 1, 0);
        x.tell(9);
        x.image();
        x.check();
        x.tell(1);
        x.restore();
        // 2 tenths a MINUTE till 4, DEPTH 5 by then: 7 and 8
        due.is("END", x.then(600, 0, 7), 6);
        due.is("9 waits", x.check(), 1);
        x.restore();
        x.check();
        x.tell(6);
        x.image();
        x.check();
        x.tell(9);
        x.restore();
        due.is("6 waits", x.check(), 0);
    }

    /** Numbers that an IMAGE gives back are those of new ones. */
    private static void numbersTakenAgain() {
        TakenUp x = new TakenUp();
        x.image();
        x.worker(1);
        x.step(0, 1, 0);
        x.step(0, 9, 0);
        x.setWorker(0, 0, 60);
        x.rest(65, 0, 2, 9);
        x.setRest(0, 5, 3);
        x.minutes(4);
        due.worker("the first", x, 0, 53, 2, 1, 63, 7, 1, 9, -1);
        x.restore();
        due.is("worker(0)", x.worker(0), 0);
        due.worker("another", x, 0, 0, 0, 0, 0, 0, 0, 0, -1);
        due.is("rest(11, 0, 7, 7)", x.rest(11, 0, 7, 7), 0);
        int[] want = {1, 1, 0, 7, 7, 10, 0, 0};
        for (int what = 0; what < 8; what++) {
            due.is("restIs(0, " + what + ")", x.restIs(0, what), want[what]);
        }
        x.step(0, 1, 0);
        x.minutes(4);
        due.worker("all done", x, 0, 4, 1, 1, 0, 0, 0, 0, 3);
        x.restore();
        x.worker(0);
        due.worker("a third", x, 0, 0, 0, 0, 0, 0, 0, 0, -1);
    }

    private static void notInTheImage() {
        TakenUp x = new TakenUp();
        x.worker(0);
        x.rest(10, 0, 900, 1);
        x.rest(43, 0, 900, 1);
        x.voice(0, 0, 5);
        x.sheet(0, 8, 2);
        x.put(0, 0, 6);
        x.worker(9);
        x.image();
        x.voice(1, 2, 5);
        x.put(0, 1, 7);
        x.sheet(1, 32, 1);
        x.put(1, 0, 9);
        x.worker(9);
        x.restore();
        due.is("THE TRACE", x.count(9), 6);
        due.is("THE TRACE", x.body(0), 51);
        due.is("SHEET 0", x.off(0, 0), 13);
        due.is("SHEET 1", x.off(1, 0), 9);
        due.is("told(1)", x.told(1), 2);
    }

    private static void tell() {
        TakenUp x = new TakenUp();
        for (int i = 1; i <= 24; i++) {
            due.is("tell", x.tell(-i), i);
        }
        due.is("the 25th", x.tell(0), Due.FULL);
        due.is("count(8)", x.count(8), 24);
        due.is("too many", x.check(), 1);
        due.is("none wait", x.count(8), 0);
        due.is("tell", x.tell(0), 1);
    }

    private static int check(TakenUp x, int... numbers) {
        for (int number : numbers) {
            x.tell(number);
        }
        return x.check();
    }

    private static void check() {
        TakenUp x = new TakenUp();
        due.is("no numbers, no WORKERS", x.check(), 0);
        due.is("too many", check(x, -1), 1);
        x.worker(0);
        x.worker(0);
        x.worker(0);
        x.step(0, 1, 0);
        x.step(2, 1, 0);
        x.rest(0, 2, 0, 5);
        due.is("all are so", check(x, 3, -1, 8), 0);
        due.is("none do then", x.count(8), 0);
        due.is("none at all", x.check(), 1);
        due.is("the first isn't so", check(x, 4, -1, 8), 1);
        due.is("the second isn't so", check(x, 3, 0, 7), 2);
        due.is("the third isn't so", check(x, 3, -1, 7), 3);
        due.is("the third lacks", check(x, 3, -1), 3);
        due.is("the second lacks", check(x, 3), 2);
        due.is("one too many", check(x, 3, -1, 8, -1), 4);
        due.is("the first ahead of one too many", check(x, 3, -2, 8, -1), 2);
        due.is("none do then", x.count(8), 0);
        due.is("nothing went by", x.count(3), 0);
        // by 600, and not by more
        TakenUp y = new TakenUp();
        y.worker(0);
        y.step(0, 60, 0);
        Due.text(y, 1, "1");
        due.is("in MINUTE 599", check(y, 599), 0);
        y.step(0, 1, 0);
        due.is("not by 600", check(y, -1), 0);
    }

    private static void count() {
        TakenUp x = new TakenUp();
        x.worker(0);
        x.worker(0);
        x.rest(0, 0, 3, 1);
        x.rest(0, 1, 50, 1);
        x.rest(0, 1, 51, 1);
        x.rest(0, 1, 51, 1);
        x.minutes(1);
        x.setRest(0, 3, 0);
        x.minutes(6);
        x.quiet(0, 11);
        x.quiet(1, 12);
        x.feed(0, 8);
        x.feed(0, 1);
        for (int i = 0; i < 10; i++) {
            x.tell(4);
        }
        x.voice(0, 2, 1);
        x.seed(-1000000006);
        int[] want = {2, 4, 3, 7, 1, 11, 12, 9, 10, 3, -1000000006};
        for (int what = 0; what < want.length; what++) {
            due.is("count(" + what + ")", x.count(what), want[what]);
        }
        due.is("no ERROR", x.told(6), 0);
        due.is("count(-1)", x.count(-1), Due.BEYOND);
        due.is("count(11)", x.count(11), Due.BEYOND);
    }

    private static void told() {
        TakenUp x = new TakenUp();
        for (int k = 1; k <= 6; k++) {
            due.is("told(" + k + ")", x.told(k), 0);
        }
        due.is("told(0)", x.told(0), Due.BEYOND);
        due.is("told(7)", x.told(7), Due.BEYOND);
        due.is("told(-1)", x.told(-1), Due.BEYOND);
        due.is("counted, too", x.told(1), 3);
        x.worker(0);
        x.rest(0, 0, 0, 1);
        x.body(0);
        x.body(0);
        x.sheet(0, 8, -1);
        x.sheet(0, 8, 1);
        x.sheet(1, 16, 1);
        x.move(0, 0, 1, 0, 1);
        x.as(0, 3);
        x.as(0, 4);
        x.voice(0, 3, 1);
        x.feed(0, 8);
        for (int i = 0; i < 8; i++) {
            x.feed(0, 8);
        }
        x.refuse(0, 600);
        x.odds(0, 601, 0, 0);
        int[] want = {4, 3, 1, 2, 3, 1};
        for (int k = 1; k <= 6; k++) {
            due.is("told(" + k + ")", x.told(k), want[k - 1]);
        }
    }
}
