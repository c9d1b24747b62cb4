/** Holds answers against those that are due; every test closes with end(). */
final class Due {
    static final int BEYOND = -1000000001;
    static final int NONE = -1000000002;
    static final int STATE = -1000000003;
    static final int FULL = -1000000004;
    static final int KIND = -1000000005;
    static final int PARTED = -1000000006;

    private int asked;
    private int wrong;

    void is(String call, long got, long want) {
        asked++;
        if (got != want) {
            wrong++;
            System.out.println(call + " answered " + got + ", due is " + want);
        }
    }

    /** What workerIs() answers of a WORKER for 0, 1, ..: -5 stands for one that isn't looked at. */
    void worker(String when, TakenUp x, int worker, int... want) {
        for (int what = 0; what < want.length; what++) {
            if (want[what] != -5) {
                is(when + ": workerIs(" + worker + ", " + what + ")", x.workerIs(worker, what), want[what]);
            }
        }
    }

    void end() {
        System.out.println(asked - wrong + " of " + asked + " answers are as due");
        if (wrong != 0 || asked == 0) {
            System.exit(1);
        }
    }

    /** Feeds a text of signs 0 .. 255 to THE TAPE, up to 8 at once. */
    static void feed(TakenUp x, String text) {
        for (int i = 0; i < text.length(); i += 8) {
            long word = 0;
            int n = Math.min(8, text.length() - i);
            for (int j = 0; j < n; j++) {
                word |= (text.charAt(i + j) & 255L) << (8 * j);
            }
            x.feed(word, n);
        }
    }

    static int text(TakenUp x, int use, String text) {
        feed(x, text);
        return x.text(use);
    }
}
