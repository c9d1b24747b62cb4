import java.util.ArrayList;
import java.util.List;

/** An object with something in each of its rooms, and all that can be asked of one. */
final class House {
    private House() {
    }

    /**
     * MINUTE 7; WORKERS 0 (3 STEPS) and 1 (one); BREAKS 0 TOLD in 900, 1 ASKED that is PUT OFF till 30,
     * 2 that came in MINUTE 1, 3 DEEP in 40; both TEXTS; 5 bytes on THE TAPE; 3 numbers that wait, the first
     * two of which are so; SHEETS 0 (8 bits, 4 numbers), 1 (16 bits, 3), 2 (8 bits, 2), 3 missing; an IMAGE of
     * MINUTE 5; a TRACE; a z. No ERROR so far.
     */
    static TakenUp made() {
        TakenUp x = new TakenUp();
        x.worker(1);
        x.worker(0);
        x.step(0, 30, 4);
        x.step(0, 7, 0);
        x.step(0, 2, 9);
        x.step(1, 60, 9);
        x.setWorker(0, 0, 50);
        x.setWorker(1, 0, 31);
        x.rest(65, 0, 900, 6);
        x.rest(12, 0, 2, 5);
        x.rest(1, 1, 1, 3);
        x.rest(44, 1, 40, 9);
        x.quiet(0, 1);
        x.quiet(1, 30);
        x.setRest(3, 5, 4);
        x.setRest(1, 5, 7);
        Due.text(x, 0, "d-9");
        Due.text(x, 1, "d/2+3");
        x.seed(77);
        x.sheet(0, 8, 4);
        x.sheet(1, 16, 3);
        x.sheet(2, 8, 2);
        for (int i = 0; i < 4; i++) {
            x.put(0, i, 20 + 7 * i);
        }
        for (int i = 0; i < 3; i++) {
            x.put(1, i, 300 - 40 * i);
        }
        x.put(2, 0, 3);
        x.put(2, 1, 4);
        x.voice(3, 2, 5);
        x.tell(x.then(600, 0, 7));
        x.tell(x.then(600, 1, 7));
        x.minutes(5);
        x.image();
        x.minutes(2);
        Due.feed(x, "d-t*2");
        x.tell(3);
        return x;
    }

    /** The same with four WORKERS, eight BREAKS (all of WORKER 0) and eight STEPS of WORKER 0. */
    static TakenUp full() {
        TakenUp x = made();
        for (int i = 2; i < 4; i++) {
            x.worker(0);
        }
        for (int i = 3; i < 8; i++) {
            x.step(0, 60, 9);
        }
        for (int i = 4; i < 8; i++) {
            x.rest(10 * (i - 3), 0, 100 * i, i);
        }
        return x;
    }

    /** All that can be asked, and what is seen by doing it; the calls are told in of. No call is told(). */
    static List<Long> answers(TakenUp x, List<String> of) {
        List<Long> answers = new ArrayList<>();
        int workers = x.count(0);
        int rests = x.count(1);
        int bodies = x.count(9);
        for (int what = 0; what <= 10; what++) {
            ask(x, answers, of, "count", what);
        }
        for (int i = 0; i < workers; i++) {
            for (int what = 0; what < 8; what++) {
                ask(x, answers, of, "workerIs", i, what);
            }
            int steps = x.workerIs(i, 1);
            for (int j = 0; j < 2 * steps; j++) {
                ask(x, answers, of, "stepIs", i, j / 2, j % 2);
            }
            ask(x, answers, of, "then", 40, i, 0);
            ask(x, answers, of, "then", 600, i, 7);
        }
        for (int i = 0; i < rests; i++) {
            for (int what = 0; what < 8; what++) {
                ask(x, answers, of, "restIs", i, what);
            }
        }
        for (int i = 0; i < bodies; i++) {
            ask(x, answers, of, "body", i);
        }
        ask(x, answers, of, "waits", 600);
        ask(x, answers, of, "heap", 500);
        seeSheets(x, answers, of);
        seeWhatWaits(x, answers, of);
        return answers;
    }

    /** Each number of a SHEET is seen by what OFF is less when it becomes 0. */
    private static void seeSheets(TakenUp x, List<Long> answers, List<String> of) {
        for (int sheet = 0; sheet < 4; sheet++) {
            ask(x, answers, of, "off", sheet, 0);
            for (int i = 0; i < 5; i++) {
                ask(x, answers, of, "put", sheet, i, 0);
                ask(x, answers, of, "off", sheet, 0);
            }
        }
    }

    /** THE TAPE, the numbers that wait, the IMAGE. */
    private static void seeWhatWaits(TakenUp x, List<Long> answers, List<String> of) {
        ask(x, answers, of, "check");
        ask(x, answers, of, "text", 0);
        ask(x, answers, of, "restIs", 0, 7);
        ask(x, answers, of, "restore");
        ask(x, answers, of, "check");
        for (int what = 0; what <= 10; what++) {
            ask(x, answers, of, "count", what);
        }
        ask(x, answers, of, "restIs", 0, 7);
        ask(x, answers, of, "then", 40, 0, 3);
        ask(x, answers, of, "image");
    }

    private static void ask(TakenUp x, List<Long> answers, List<String> of, String name, long... args) {
        of.add(Said.written(name, args));
        answers.add(Calls.call(x, name, args));
    }
}
