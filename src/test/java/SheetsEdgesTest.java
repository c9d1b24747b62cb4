import java.io.IOException;
import java.util.Arrays;

/** Each sentence of promises 25 to 38; what is refused is refused on a House, beside a twin. */
public final class SheetsEdgesTest {
    private static final int MIN = Integer.MIN_VALUE;
    private static final int MAX = Integer.MAX_VALUE;
    private static final int[] ANY = {};
    private static final int[] FOUR = {0, 3};

    private static Said said;

    public static void main(String[] args) throws IOException {
        said = new Said();
        voice();
        body();
        sheet();
        put();
        move();
        moveRefused();
        steps();
        off();
        fits();
        image();
        restore();
        tell();
        check();
        count();
        told();
        said.end();
    }

    private static long[] of(long... args) {
        return args;
    }

    private static TakenUp withWorker() {
        TakenUp x = new TakenUp();
        x.worker(0);
        return x;
    }

    private static void voice() {
        said.promise(25);
        said.says("A VOICE of a BREAK.");
        TakenUp x = withWorker();
        for (int i = 0; i < 8; i++) {
            x.rest(9, 0, 0, 1);
        }
        for (int i = 0; i < 8; i++) {
            said.is("breaks", x.voice(i, 0, 100), 100 + i);
            said.is("asks", x.voice(i, 1, 100), 200 + 2 * i);
            said.is("holds", x.voice(i, 2, 100), 191 + 2 * i);
            said.is("parts", x.voice(i, 3, 100), 100 / (9 - i));
        }
        // answers that only look like ERRORS
        for (int k = 1; k <= 6; k++) {
            said.is("as LOW - " + k, x.voice(0, 0, -1000000000 - k), -1000000000 - k);
            said.is("none told", x.told(k), 0);
        }

        said.says("BEYOND.");
        said.bounds("voice", of(0, 0, 5), FOUR, FOUR, ANY);
        said.is("without BREAKS", withWorker().voice(0, 0, 0), Due.BEYOND);

        said.says("PARTED.");
        // where told: THE TRACE is that of this one, all else is as it was
        TakenUp y = House.made();
        TakenUp twin = House.made();
        y.setRest(3, 1, 3);
        twin.setRest(3, 1, 3);
        said.is("m is k", y.voice(3, 3, 7), Due.PARTED);
        said.is("told(6)", y.told(6), 1);
        said.is("told(1)", y.told(1), twin.told(1));
        said.is("21", y.body(0), 21);
        said.is("13", y.body(1), 13);
        said.is("no more", y.count(9), 2);
        twin.voice(3, 3, 7);
        said.same("PARTED", y, twin);
        said.refused(House::made, "voice(3, 4, 7), BEYOND first", Due.BEYOND, z -> z.voice(3, 4, 7));
        said.is("only one of them parts", House.made().voice(3, 0, 7), (7 + 3 - 8) * 3);
    }

    private static void body() {
        said.promise(26);
        said.says("THE TRACE's i-th.");
        TakenUp x = House.made();
        x.voice(3, 2, 5);
        int[] bodies = {51, 12, 11, 50, 20, 10};
        for (int i = 0; i < bodies.length; i++) {
            said.is("body(" + i + ")", x.body(i), bodies[i]);
        }

        said.says("NONE: there is none such.");
        for (int i : new int[] {-1, 6, 7, 29, 30, 31, MIN, MAX}) {
            said.refused(Due.NONE, "body", i);
        }
        said.is("of none", new TakenUp().body(0), Due.NONE);
    }

    private static void sheet() {
        said.promise(27);
        said.says("A SHEET has n numbers, all 0, of so many bits (8, 16, 32; 0: it is missing, n doesn't matter): 1.");
        TakenUp x = withWorker();
        for (int bits : new int[] {8, 16, 32}) {
            for (int n : new int[] {0, 1, 23, 24}) {
                for (int sheet = 0; sheet < 4; sheet++) {
                    said.is("sheet(" + sheet + ", " + bits + ", " + n + ")", x.sheet(sheet, bits, n), 1);
                }
                said.is("its last", x.put(3, n - 1, 9), n == 0 ? Due.BEYOND : 1);
                said.is("no more", x.put(3, n, 9), Due.BEYOND);
                said.is("all but the last are 0", x.off(3, 0), n == 0 ? 0 : 9);
                x.sheet(3, bits, n);
                said.is("all are 0", x.off(3, 0), 0);
            }
        }
        for (int n : new int[] {0, 24, 25, -1, MIN, MAX}) {
            x.sheet(2, 8, 24);
            said.is("sheet(2, 0, " + n + ")", x.sheet(2, 0, n), 1);
            said.is("it is missing", x.put(2, 0, 0), Due.NONE);
        }

        said.says("BEYOND.");
        said.bounds("sheet", of(0, 8, 2), FOUR);
        for (int bits : new int[] {MIN, -32, -8, -1, 1, 7, 9, 15, 17, 24, 31, 33, 64, 256, MAX}) {
            said.refused(Due.BEYOND, "sheet", 0, bits, 2);
            said.refused(Due.BEYOND, "sheet", 0, bits, -1);
        }
        for (int bits : new int[] {8, 16, 32}) {
            said.refused(Due.BEYOND, "sheet", 0, bits, 25);
            said.refused(Due.BEYOND, "sheet", 3, bits, MAX);
        }
        said.refused(Due.BEYOND, "sheet", 4, 0, 0);
        said.refused(Due.BEYOND, "sheet", -1, 0, 0);

        said.says("STATE: n is below 0 (ahead of BEYOND of n).");
        for (int bits : new int[] {8, 16, 32}) {
            said.refused(Due.STATE, "sheet", 0, bits, -1);
            said.refused(Due.STATE, "sheet", 3, bits, MIN);
        }
        said.refused(Due.BEYOND, "sheet", 4, 8, -1);
        said.refused(Due.BEYOND, "sheet", -1, 8, -1);
    }

    /** The only number of a SHEET of so many bits, which v was put to, less the DEPTH 0 of a WORKER. */
    private static int seen(int bits, int v) {
        TakenUp x = withWorker();
        x.sheet(0, bits, 1);
        said.is("put(0, 0, " + v + ")", x.put(0, 0, v), 1);
        return x.off(0, 0);
    }

    private static void put() {
        said.promise(28);
        said.says("Number i of a SHEET becomes v (its lowest bits): 1.");
        int[][] eight = {{0, 0}, {127, 127}, {128, 128}, {255, 1}, {256, 0}, {257, 1}, {-1, 1}, {-128, 128}, {-129, 127},
            {MAX, 1}, {MIN, 0}, {0x1234, 0x34}};
        for (int[] v : eight) {
            said.is(v[0] + " in 8 bits", seen(8, v[0]), v[1]);
        }
        int[][] sixteen = {{0, 0}, {999, 999}, {32767, 1000}, {32768, 1000}, {65535, 1}, {65536, 0}, {65537, 1}, {-1, 1},
            {-65537, 1}, {MAX, 1}, {MIN, 0}, {0x120034, 0x34}};
        for (int[] v : sixteen) {
            said.is(v[0] + " in 16 bits", seen(16, v[0]), v[1]);
        }
        int[][] more = {{0, 0}, {-1, 1}, {-999, 999}, {65536, 1000}, {MAX, 1000}, {MIN, 1000}};
        for (int[] v : more) {
            said.is(v[0] + " in 32 bits", seen(32, v[0]), v[1]);
        }
        TakenUp x = withWorker();
        x.sheet(1, 8, 24);
        for (int i = 0; i < 24; i++) {
            x.put(1, i, i + 1);
        }
        said.is("all of them", x.off(1, 0), 300);
        x.put(1, 23, 0);
        x.put(1, 0, 100);
        said.is("100 for 1, 0 for 24", x.off(1, 0), 375);

        said.says("BEYOND: no such SHEET.");
        said.bounds("put", of(0, 0, 5), FOUR);
        said.refused(Due.BEYOND, "put", 4, -1, 5);

        said.says("NONE: it is missing.");
        said.refused(Due.NONE, "put", 3, 0, 5);
        said.refused(Due.NONE, "put", 3, -1, 5);
        said.refused(Due.NONE, "put", 3, MAX, 5);

        said.says("BEYOND: no such number.");
        said.bounds("put", of(0, 0, 5), ANY, FOUR, ANY);
        said.bounds("put", of(1, 0, 5), ANY, new int[] {0, 2}, ANY);
        TakenUp none = withWorker();
        none.sheet(0, 8, 0);
        said.is("of none", none.put(0, 0, 0), Due.BEYOND);
    }

    /** SHEETS 0 and 1 of 24 and 4 numbers: 1, 2, .. and 61, 62, .. */
    private static TakenUp rows(int bits) {
        TakenUp x = withWorker();
        x.sheet(0, bits, 24);
        x.sheet(1, bits, 4);
        for (int i = 0; i < 24; i++) {
            x.put(0, i, 1 + i);
            x.put(1, i, 61 + i);
        }
        return x;
    }

    /** Each number of a SHEET, moved alone to another. */
    private static void row(String when, TakenUp x, int sheet, int bits, int... want) {
        x.sheet(3, bits, 1);
        for (int i = 0; i < want.length; i++) {
            x.move(sheet, i, 3, 0, 1);
            said.is(when + ": number " + i, x.off(3, 0), want[i]);
        }
    }

    private static void move() {
        said.promise(29);
        said.says("n numbers of a SHEET, from number i on, come to another one (or the same), from its number j on,"
            + " as they all were: n.");
        for (int bits : new int[] {8, 16, 32}) {
            TakenUp x = rows(bits);
            said.is("the last four", x.move(0, 20, 1, 0, 4), 4);
            row("the last four", x, 1, bits, 21, 22, 23, 24);
            said.is("to the last", x.move(1, 0, 0, 23, 1), 1);
            row("to the last", x, 0, bits, 1, 2, 3, 4, 5, 6, 7, 8, 9, 10, 11, 12, 13, 14, 15, 16, 17, 18, 19, 20, 21, 22, 23, 21);
            x = rows(bits);
            said.is("the same, 1 up", x.move(1, 0, 1, 1, 3), 3);
            row("the same, 1 up", x, 1, bits, 61, 61, 62, 63);
            x = rows(bits);
            said.is("the same, 1 down", x.move(1, 1, 1, 0, 3), 3);
            row("the same, 1 down", x, 1, bits, 62, 63, 64, 64);
            said.is("all of it to itself", x.move(1, 0, 1, 0, 4), 4);
            row("all of it to itself", x, 1, bits, 62, 63, 64, 64);
            said.is("all 24 to itself", x.move(0, 0, 0, 0, 24), 24);
            said.is("none", x.move(0, 0, 1, 0, 0), 0);
            said.is("none, from behind the last to behind the last", x.move(0, 24, 1, 4, 0), 0);
            row("none", x, 1, bits, 62, 63, 64, 64);
        }
        // numbers below 0 and the largest go as they are
        TakenUp x = withWorker();
        x.sheet(0, 32, 2);
        x.sheet(1, 32, 2);
        x.put(0, 0, MIN);
        x.put(0, 1, -3);
        x.move(0, 0, 1, 0, 2);
        said.is("1000 and 3", x.off(1, 0), 1003);
    }

    private static void moveRefused() {
        said.says("BEYOND: no such SHEET.");
        said.bounds("move", of(0, 0, 2, 0, 1), FOUR);
        said.bounds("move", of(0, 0, 2, 0, 1), ANY, ANY, FOUR);
        said.refused(Due.BEYOND, "move", 3, 0, 4, 0, 1);
        said.refused(Due.BEYOND, "move", -1, 0, 3, 0, 1);

        said.says("NONE: one is missing.");
        said.refused(Due.NONE, "move", 3, 0, 0, 0, 1);
        said.refused(Due.NONE, "move", 0, 0, 3, 0, 1);
        said.refused(Due.NONE, "move", 3, 0, 3, 0, 0);
        said.refused(Due.NONE, "move", 3, -1, 0, -1, -1);

        said.says("KIND: they are of unlike bits.");
        said.refused(Due.KIND, "move", 0, 0, 1, 0, 1);
        said.refused(Due.KIND, "move", 1, 0, 0, 0, 0);
        said.refused(Due.KIND, "move", 0, -1, 1, 0, 1);
        said.refused(Due.KIND, "move", 0, 0, 1, 0, 25);

        said.says("BEYOND: n, i, or j is below 0, or they don't stand there.");
        // 4 numbers in 0, 2 in 2
        long[][] wrong = {{0, 0, 2, 0, -1}, {0, -1, 2, 0, 1}, {0, 0, 2, -1, 1}, {0, -1, 2, 0, 0}, {0, 0, 2, -1, 0},
            {0, 0, 2, 0, MIN}, {0, MIN, 2, 0, 1}, {0, 0, 2, MIN, 1}, {0, 4, 2, 0, 1}, {0, 3, 2, 0, 2}, {0, 5, 2, 0, 0},
            {0, 0, 2, 3, 0}, {0, 0, 2, 2, 1}, {0, 0, 2, 1, 2}, {0, 0, 2, 0, 3}, {2, 0, 0, 0, 3}, {0, 0, 0, 0, 5},
            {0, 0, 0, 1, 4}, {0, 0, 2, 0, MAX}, {0, MAX, 2, 0, 1}, {0, 0, 2, MAX, 1}, {0, MAX, 2, 0, MAX}, {0, 1, 2, 1, MAX},
            {0, 4, 0, 4, -1}};
        for (long[] w : wrong) {
            said.refused(Due.BEYOND, "move", w);
        }
    }

    private static TakenUp withSheet(int bits, int... numbers) {
        TakenUp x = withWorker();
        x.sheet(0, bits, numbers.length);
        for (int i = 0; i < numbers.length; i++) {
            x.put(0, i, numbers[i]);
        }
        return x;
    }

    private static void steps() {
        said.promise(30);
        said.says("Numbers of a SHEET, two by two, are STEPS of a WORKER (LONG, HARD): how many came, up to the first that"
            + " step() would refuse, or that isn't whole (no ERROR then).");
        int[][] rows = {{0}, {0, 5}, {1, 60, 9}, {1, 60, 9, 1}, {2, 60, 9, 1, 0}, {0, 0, 0, 1, 1}, {0, 61, 0, 1, 1},
            {0, 1, 10, 1, 1}, {0, 1, -1, 1, 1}, {0, -1, 1, 1, 1}, {2, 5, 5, 6, 6, 0, 7, 8, 8},
            {8, 1, 1, 2, 2, 3, 3, 4, 4, 5, 5, 6, 6, 7, 7, 8, 8, 9, 9}};
        for (int bits : new int[] {8, 16, 32}) {
            for (int[] row : rows) {
                int[] numbers = Arrays.copyOfRange(row, 1, row.length);
                TakenUp x = withSheet(bits, numbers);
                said.is(numbers.length + " numbers", x.steps(0, 0), row[0]);
                said.is("so many STEPS", x.workerIs(0, 1), row[0]);
                for (int i = 0; i < row[0]; i++) {
                    said.is("LONG", x.stepIs(0, i, 0), numbers[2 * i]);
                    said.is("HARD", x.stepIs(0, i, 1), numbers[2 * i + 1]);
                }
                said.is("no ERROR", x.told(1) + x.told(4), 0);
            }
        }
        TakenUp x = withSheet(8, 1, 0, 61, 0);
        x.setWorker(0, 0, 99);
        said.is("one", x.steps(0, 0), 1);
        x.minutes(1);
        said.is("ENDS", x.workerIs(0, 7), 0);
        said.is("one more", x.steps(0, 0), 1);
        said.is("ENDS is -1 again", x.workerIs(0, 7), -1);
        x.minutes(1);
        x.put(0, 0, 0);
        said.is("none", x.steps(0, 0), 0);
        said.is("ENDS stays", x.workerIs(0, 7), 1);
        said.is("without room", House.full().steps(0, 0), 0);

        said.says("BEYOND: SHEET, WORKER.");
        said.bounds("steps", of(0, 0), FOUR, new int[] {0, 1});
        said.refused(Due.BEYOND, "steps", 3, 2);

        said.says("NONE.");
        said.refused(Due.NONE, "steps", 3, 0);
    }

    private static void off() {
        said.promise(31);
        said.says("OFF of a LOG of a WORKER.");
        TakenUp x = withSheet(16, 11, 12, 13);
        said.is("of none at work", x.off(0, 0), 36);
        x.step(0, 60, 0);
        x.setWorker(0, 0, 10);
        said.is("as it is", x.off(0, 0), 0);
        x.setWorker(0, 0, 9);
        said.is("1 less", x.off(0, 0), 3);
        x.setWorker(0, 4, 1);
        said.is("AWAY for one: 9, 10, 11", x.off(0, 0), 2 + 2 + 2);
        said.is("of no numbers", withSheet(8).off(0, 0), 0);

        said.says("BEYOND: SHEET, WORKER.");
        said.bounds("off", of(0, 0), FOUR, new int[] {0, 1});
        said.refused(Due.BEYOND, "off", 3, 2);

        said.says("NONE.");
        said.refused(Due.NONE, "off", 3, 0);
    }

    private static void fits() {
        said.promise(32);
        said.says("FITS for a BREAK by a LOG.");
        for (int m = 0; m <= 9; m++) {
            TakenUp x = withSheet(32, 40 - m, 40 - m);
            x.setWorker(0, 0, 80);
            x.rest(19 - m, 0, 0, 60);
            said.is("m " + m, x.fits(0, 0), m);
            said.is("m stays", x.restIs(0, 1), 9 - m);
        }

        said.says("BEYOND: SHEET, BREAK.");
        said.bounds("fits", of(0, 0), FOUR, FOUR);
        said.refused(Due.BEYOND, "fits", 3, 4);
        said.is("without BREAKS", withSheet(8, 1).fits(0, 0), Due.BEYOND);

        said.says("NONE.");
        said.refused(Due.NONE, "fits", 3, 0);
    }

    private static void image() {
        said.promise(33);
        said.says("All (but SHEETS, THE TRACE, what told() tells, and how often this was done) is kept as an IMAGE,"
            + " in place of one ahead: how often that was done.");
        TakenUp x = House.made();
        said.is("the second", x.image(), 2);
        // of all that there is, something else
        x.worker(0);
        x.setWorker(0, 0, 3);
        x.setWorker(1, 4, 300);
        x.setWorker(1, 5, 1);
        x.step(1, 1, 1);
        x.rest(69, 0, 1, 60);
        x.setRest(0, 0, 2);
        x.setRest(1, 1, 9);
        x.setRest(1, 3, 3);
        x.setRest(3, 4, 60);
        x.setRest(3, 5, 0);
        x.quiet(0, 900);
        x.quiet(1, 901);
        x.text(0);
        x.untell(1);
        x.seed(-5);
        x.tell(8);
        x.loose(40);
        x.check();
        for (int i = 0; i < 24; i++) {
            x.tell(-7);
        }
        Due.feed(x, "7*7*7*7*7");
        said.is("as it was", x.restore(), 7);
        TakenUp twin = House.made();
        twin.image();
        said.same("restore()", x, twin);
        said.is("how often", x.image(), 4);

        TakenUp y = House.made();
        y.image();
        y.sheet(3, 8, 1);
        y.put(3, 0, 9);
        y.put(0, 0, 0);
        int off = y.off(0, 0);
        y.voice(2, 0, 0);
        y.worker(2);
        y.image();
        y.restore();
        said.is("SHEETS: one more", y.put(3, 0, 9), 1);
        said.is("SHEETS: another number", y.off(0, 0), off);
        said.is("THE TRACE", y.count(9), 1);
        said.is("THE TRACE", y.body(0), 10);
        said.is("what told() tells", y.told(1), 1);
        said.is("how often", y.image(), 4);
    }

    private static void restore() {
        said.promise(34);
        said.says("All is as the IMAGE has it, which stays: THE MINUTE.");
        TakenUp x = House.made();
        for (int i = 0; i < 3; i++) {
            said.is("MINUTE 5", x.restore(), 5);
            said.is("MINUTE 5", x.count(3), 5);
            said.is("2 numbers", x.count(8), 2);
            said.is("no byte", x.count(7), 0);
            x.minutes(600);
            x.tell(5);
            x.feed(0, 8);
        }
        TakenUp first = new TakenUp();
        first.image();
        first.worker(1);
        first.setWorker(0, 0, 99);
        first.step(0, 1, 0);
        first.step(0, 60, 0);
        first.rest(59, 0, 2, 60);
        first.setRest(0, 5, 0);
        first.minutes(3);
        said.worker("much was", first, 0, 74, 2, 1, 99, 59, 1, 25, -1);
        said.is("MINUTE 0", first.restore(), 0);
        said.is("without WORKERS", first.count(0), 0);
        said.is("a WORKER anew", first.worker(0), 0);
        said.worker("all at first", first, 0, 0, 0, 0, 0, 0, 0, 0, -1);
        said.is("a BREAK anew", first.rest(0, 0, 9, 1), 0);
        int[] anew = {0, 0, 0, 9, 1, 10, 0, 0};
        for (int what = 0; what < anew.length; what++) {
            said.is("restIs(0, " + what + ")", first.restIs(0, what), anew[what]);
        }
        first.step(0, 1, 0);
        first.minutes(12);
        said.is("it came", first.restIs(0, 6), 1);
        said.is("all is done", first.workerIs(0, 7), 3);
        said.is("LOST", first.workerIs(0, 6), 2);
        first.setRest(0, 3, 0);
        said.is("MINUTE 0 again", first.restore(), 0);
        first.worker(0);
        said.worker("all at first", first, 0, 0, 0, 0, 0, 0, 0, 0, -1);
        first.rest(0, 0, 9, 1);
        said.is("not yet", first.restIs(0, 6), 0);

        said.says("NONE: there is none.");
        said.refused(TakenUp::new, "restore()", Due.NONE, y -> y.restore());
        said.refused(SheetsEdgesTest::withWorker, "restore()", Due.NONE, y -> y.restore());
    }

    private static void tell() {
        said.promise(35);
        said.says("One more number waits: how many.");
        TakenUp x = new TakenUp();
        int[] numbers = {0, -1, MIN, MAX, Due.FULL};
        for (int i = 1; i <= 24; i++) {
            said.is("tell", x.tell(numbers[i % 5]), i);
            said.is("count(8)", x.count(8), i);
        }

        said.says("FULL: 24 wait.");
        said.is("the 25th", x.tell(0), Due.FULL);
        said.is("24 still", x.count(8), 24);
        said.refused(SheetsEdgesTest::waiting, "tell(7)", Due.FULL, y -> y.tell(7));
        said.refused(SheetsEdgesTest::waiting, "tell(MIN)", Due.FULL, y -> y.tell(MIN));
        x.check();
        said.is("none do any more", x.tell(0), 1);
    }

    /** With 24 numbers. */
    private static TakenUp waiting() {
        TakenUp x = House.made();
        for (int i = 0; i < 21; i++) {
            x.tell(7);
        }
        return x;
    }

    private static int check(TakenUp x, int... numbers) {
        for (int number : numbers) {
            x.tell(number);
        }
        int answer = x.check();
        said.is("none do then", x.count(8), 0);
        return answer;
    }

    private static void check() {
        said.promise(36);
        said.says("The numbers that wait (none do then) are ENDS of WORKERS 0, 1, .. AHEAD by 600: 0;");
        TakenUp x = new TakenUp();
        said.is("none of none", check(x), 0);
        for (int i = 0; i < 4; i++) {
            x.worker(0);
        }
        x.step(0, 1, 0);
        x.step(1, 60, 0);
        x.step(3, 60, 0);
        x.setWorker(3, 4, 1);
        Due.text(x, 1, "1+(h=0)*(l=1)*9");
        said.is("0, 599, none, not by 600", check(x, 0, 599, -1, -1), 0);
        said.is("nothing goes by", x.count(3), 0);
        x.minutes(1);
        said.is("by 601", check(x, 0, 599, -1, 600), 0);

        said.says("else 1 and the place of the first that isn't so (one that lacks, or is too many, too).");
        said.is("the first", check(x, 1, 599, -1, 600), 1);
        said.is("the second", check(x, 0, 598, -1, 600), 2);
        said.is("the third", check(x, 0, 599, 0, 600), 3);
        said.is("the last", check(x, 0, 599, -1, 601), 4);
        said.is("the first of all", check(x, 9, 9, 9, 9), 1);
        said.is("the first lacks", check(x), 1);
        said.is("the second lacks", check(x, 0), 2);
        said.is("the last lacks", check(x, 0, 599, -1), 4);
        said.is("one too many", check(x, 0, 599, -1, 600, -1), 5);
        said.is("the last ahead of one too many", check(x, 0, 599, -1, 9, -1), 4);
        int[] many = new int[24];
        System.arraycopy(new int[] {0, 599, -1, 600}, 0, many, 0, 4);
        said.is("20 too many", check(x, many), 5);
        TakenUp none = new TakenUp();
        said.is("one of none", check(none, -1), 1);
        said.is("24 of none", check(none, many), 1);
    }

    private static void count() {
        said.promise(37);
        said.says("0 WORKERS, 1 BREAKS, 2 those that haven't come, 3 THE MINUTE, 4 WAITED, 5 FROM, 6 TO, 7 bytes of THE TAPE,"
            + " 8 numbers that wait, 9 BODIES in THE TRACE, 10 z (any number).");
        TakenUp x = House.made();
        int[] house = {2, 4, 3, 7, 0, 1, 30, 5, 3, 6, 77};
        for (int what = 0; what < house.length; what++) {
            said.is("count(" + what + ")", x.count(what), house[what]);
        }
        TakenUp y = House.full();
        y.minutes(593);
        y.minutes(600);
        y.quiet(0, 999);
        y.quiet(1, 999);
        for (int i = 0; i < 21; i++) {
            y.tell(0);
        }
        y.text(0);
        for (int i = 0; i < 60; i++) {
            y.feed(0, 1);
        }
        y.seed(Due.BEYOND);
        // 28 of the ASKED one, PUT OFF till 30
        int[] full = {4, 8, 0, 1200, 28, 999, 999, 60, 24, 6, Due.BEYOND};
        for (int what = 0; what < full.length; what++) {
            said.is("count(" + what + "), full", y.count(what), full[what]);
        }
        said.is("no ERROR", y.told(1), 0);
        y.seed(Due.PARTED);
        said.is("z", y.count(10), Due.PARTED);
        said.is("no ERROR", y.told(6), 0);

        said.says("BEYOND.");
        said.bounds("count", of(0), new int[] {0, 10});
    }

    private static void told() {
        said.promise(38);
        said.says("How many acts have answered an ERROR LOW - k (k 1 .. 6);");
        TakenUp x = House.full();
        int[] times = {0, 3, 2, 4, 1, 2, 3};
        x.setRest(4, 1, 4);
        for (int i = 0; i < 4; i++) {
            x.worker(i < times[1] ? 2 : 0);
            x.workerIs(0, 0);
            x.body(i < times[2] ? -1 : 0);
            x.cost(i < times[3] ? 2 : 0, 600);
            x.tell(i < times[4] ? 4 : 3);
            x.as(3, i < times[5] ? 2 : 4);
            x.voice(4, i < times[6] ? 3 : 0, 1);
        }
        // of the four workers three were BEYOND, one was FULL
        for (int k = 1; k <= 6; k++) {
            said.is("told(" + k + ")", x.told(k), times[k]);
            said.is("told(" + k + ") again", x.told(k), times[k]);
        }
        said.is("a long one", x.odds(0, 601, 0, 0), Due.BEYOND);
        said.is("counted", x.told(1), 4);
        x.restore();
        said.is("not in an IMAGE", x.told(1), 4);

        said.says("BEYOND: another k (counted, too).");
        said.bounds("told", of(1), new int[] {1, 6});
        TakenUp y = new TakenUp();
        int[] others = {0, 7, -1, 8, MIN, MAX};
        for (int i = 0; i < others.length; i++) {
            said.is("told(" + others[i] + ")", y.told(others[i]), Due.BEYOND);
            said.is("counted, too", y.told(1), i + 1);
        }
    }
}
