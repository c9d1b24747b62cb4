/** Promises 25 and 26: voices and the trace of their bodies. */
public final class VoicesTest {
    private static final Due due = new Due();
    // a row a KIND, of each VOICE the BODIES as they begin
    private static final int[][][] TRACES = {
        {{10}, {11, 10}, {12, 11, 10}, {13}},
        {{20, 10}, {11, 20, 10}, {12, 11, 20, 10}, {21, 13, 11, 20, 10}},
        {{10}, {30, 11, 10}, {12, 30, 11, 10}, {13}},
        {{10}, {11, 10}, {40, 12, 11, 10}, {13}},
        {{50, 20, 10}, {11, 50, 20, 10}, {51, 12, 11, 50, 20, 10}, {21, 13, 11, 50, 20, 10}},
        {{10}, {60, 30, 11, 10}, {12, 60, 30, 11, 10}, {13}},
        {{70}, {71, 11, 70}, {12, 71, 11, 70}, {13}},
    };

    // likewise, of the VOICE that parts, if it is PARTED: it stops behind the BODY 13
    private static final int[][] PARTED_TRACES = {{13}, {21, 13}, {13}, {13}, {21, 13}, {13}, {13}};

    public static void main(String[] args) {
        answers();
        parted();
        partedFirst();
        wrong();
        due.end();
    }

    private static int answer(int kind, int voice, int k, int m, int x) {
        int breaks = x + k;
        int asked = x + k - 8;
        int parts = voice == 3 ? x / (m - k) : 0;
        switch (10 * kind + voice) {
            case 0: case 20: case 30: case 50: return breaks;
            case 1: case 31: return breaks * 2;
            case 2: return breaks * 2 - m;
            case 3: case 23: case 33: case 53: case 63: return parts;
            case 10: return asked;
            case 11: return asked * 2;
            case 12: return asked * 2 - m;
            case 13: return parts + (1 + k - 8) * 2;
            case 21: return -(breaks * 2);
            case 22: return -(breaks * 2) - m;
            case 32: return (x / 2 + k) * 2 - m;
            case 40: return asked * 3;
            case 41: return asked * 3 * 2;
            case 42: return (asked * 3 * 2 - m) ^ k;
            case 43: return parts + (1 + k - 8) * 3 * 2;
            case 51: return -((breaks + 1) * 2);
            case 52: return -((breaks + 1) * 2) - m;
            case 60: return 3;
            case 61: return 6 + m;
            default: return 6;
        }
    }

    private static void answers() {
        int[] numbers = {0, 1, -1, 7, -9, 40, Integer.MAX_VALUE, Integer.MIN_VALUE, 1431655765};
        for (int m = 0; m <= 9; m += 3) {
            for (int kind = 0; kind < 7; kind++) {
                TakenUp x = new TakenUp();
                x.worker(0);
                for (int k = 0; k < 8; k++) {
                    x.rest(10 * kind + m, 0, 900, 1);
                }
                for (int voice = 0; voice < 4; voice++) {
                    for (int k = 0; k < 8; k += 7) {
                        for (int number : numbers) {
                            String call = "KIND " + kind + ", m " + m + ": voice(" + k + ", " + voice + ", " + number + ")";
                            if (voice == 3 && m == k) {
                                due.is(call, x.voice(k, voice, number), Due.PARTED);
                            } else {
                                due.is(call, x.voice(k, voice, number), answer(kind, voice, k, m, number));
                                trace(call, x, TRACES[kind][voice]);
                            }
                        }
                    }
                }
            }
        }
        // MIN / -1 wraps
        TakenUp x = new TakenUp();
        x.worker(0);
        x.rest(0, 0, 0, 1);
        x.rest(0, 0, 0, 1);
        due.is("MIN by -1", x.voice(1, 3, Integer.MIN_VALUE), Integer.MIN_VALUE);
        due.is("cut toward 0", x.voice(1, 3, 7), -7);
        x.setRest(1, 1, 3);
        due.is("-7 by 2", x.voice(1, 3, -7), -3);
        // an answer that only looks like an ERROR
        due.is("-1000000001", x.voice(1, 0, -1000000002), -1000000001);
        due.is("told(1)", x.told(1), 0);
        x.minutes(1);
        due.is("one that came speaks, too", x.voice(1, 0, 4), 5);
    }

    private static void trace(String call, TakenUp x, int[] bodies) {
        due.is(call + ": count(9)", x.count(9), bodies.length);
        for (int i = 0; i < bodies.length; i++) {
            due.is(call + ": body(" + i + ")", x.body(i), bodies[i]);
        }
        due.is(call + ": one more", x.body(bodies.length), Due.NONE);
        due.is(call + ": body(-1)", x.body(-1), Due.NONE);
    }

    /** One that is PARTED is the latest voice() nevertheless: THE TRACE has the BODIES that it began. */
    private static void parted() {
        TakenUp x = new TakenUp();
        x.worker(0);
        for (int kind = 0; kind < 7; kind++) {
            x.rest(10 * kind + kind, 0, 900, 1);
        }
        for (int kind = 0; kind < 7; kind++) {
            due.is("asks", x.voice(kind, 1, 5), answer(kind, 1, kind, kind, 5));
            due.is("parts", x.voice(kind, 3, 5), Due.PARTED);
            due.is("told(6)", x.told(6), kind + 1);
            trace("behind a PARTED one", x, PARTED_TRACES[kind]);
            due.is("no such VOICE", x.voice(kind, 4, 5), Due.BEYOND);
            trace("behind a PARTED one and BEYOND", x, PARTED_TRACES[kind]);
            due.is("breaks", x.voice(kind, 0, 5), answer(kind, 0, kind, kind, 5));
            trace("behind one that isn't PARTED", x, TRACES[kind][0]);
        }
    }

    /** PARTED changes nothing but THE TRACE and what told() tells, and an IMAGE keeps neither. */
    private static void partedFirst() {
        TakenUp x = new TakenUp();
        x.worker(0);
        x.rest(10, 0, 900, 1);
        x.image();
        due.is("parts", x.voice(0, 3, 9), Due.PARTED);
        trace("PARTED at first", x, PARTED_TRACES[1]);
        x.restore();
        trace("behind restore()", x, PARTED_TRACES[1]);
        due.is("told(6)", x.told(6), 1);
        due.is("z", x.count(10), 1);
        due.is("CAME", x.restIs(0, 6), 0);
    }

    private static void wrong() {
        TakenUp x = new TakenUp();
        due.is("no BREAK", x.voice(0, 0, 0), Due.BEYOND);
        x.worker(0);
        x.rest(10, 0, 900, 1);
        x.voice(0, 0, 0);
        for (int[] w : new int[][] {{-1, 0}, {1, 0}, {0, -1}, {0, 4}}) {
            due.is("voice(" + w[0] + ", " + w[1] + ", 0)", x.voice(w[0], w[1], 0), Due.BEYOND);
        }
        trace("behind BEYOND", x, TRACES[1][0]);
    }
}
