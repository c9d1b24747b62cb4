import java.io.IOException;
import java.lang.reflect.Array;
import java.lang.reflect.Field;

/** Each sentence of "Terms" 1 to 3, and of what stands ahead of them. */
public final class TermsEdgesTest {
    private static final int BREAK = 0;
    private static final int ASKED = 10;
    private static final int SELF = 20;
    private static final int DUE = 30;
    private static final int DEEP = 40;
    private static final int SEAMED = 50;
    private static final int TOLD = 60;

    private static Said said;

    public static void main(String[] args) throws IOException, ReflectiveOperationException {
        said = new Said();
        said.term(0);
        errors();
        errorsInOrder();
        quotients();
        said.term(1);
        workers();
        workerNumbers();
        lost();
        ends();
        breaks();
        breakNumbers();
        keeps();
        keepsByDone();
        keepsTold();
        said.term(2);
        tape();
        grammar();
        operands();
        open();
        values();
        faults();
        leaves();
        goes();
        said.term(3);
        minute();
        comesUp();
        putOff();
        comes();
        whileAway();
        waitedBehind();
        works();
        nextStep();
        quiet();
        waited();
        loose();
        draws();
        said.end();
    }

    // ---- ahead of the terms

    private static void errors() {
        said.says("ERRORS are answers below -1000000000: LOW is -1000000000; LOW - 1 BEYOND, LOW - 2 NONE, LOW - 3 STATE,"
            + " LOW - 4 FULL, LOW - 5 KIND, LOW - 6 PARTED (in longs, too).");
        TakenUp x = House.full();
        said.is("BEYOND", x.workerIs(0, 8), -1000000001);
        said.is("NONE", x.body(30), -1000000002);
        said.is("STATE", x.cost(2, 0), -1000000003);
        said.is("FULL", x.worker(0), -1000000004);
        said.is("KIND", x.as(0, 1), -1000000005);
        x.setRest(4, 1, 4);
        said.is("PARTED", x.voice(4, 3, 1), -1000000006);
        said.is("BEYOND as a long", x.odds(0, 601, 0, 0), -1000000001L);
        said.is("STATE as a long", x.odds(0, 600, 0, 0), -1000000003L);
    }

    private static void errorsInOrder() {
        said.says("Each act tells its ERRORS in the order in which they are asked; one that answers an ERROR changes nothing"
            + " but what told() tells, or where told.");
        // each ERROR ahead of the one behind it; that nothing changes a twin says
        said.refused(House::full, "worker(2), full", Due.BEYOND, x -> x.worker(2));
        said.refused(House::full, "step(0, 0, 0), full", Due.BEYOND, x -> x.step(0, 0, 0));
        said.refused(House::full, "rest(0, 0, 0, 0), full", Due.BEYOND, x -> x.rest(0, 0, 0, 0));
        said.refused(TermsEdgesTest::fullTape, "feed(0, 9), full", Due.BEYOND, x -> x.feed(0, 9));
        said.refused(TermsEdgesTest::late, "minutes(601), late", Due.BEYOND, x -> x.minutes(601));
        said.refused(TermsEdgesTest::late, "loose(601), late", Due.BEYOND, x -> x.loose(601));
        said.refused(Due.BEYOND, "cost", 2, 601);
        said.refused(Due.STATE, "cost", 2, 0);
        said.refused(Due.BEYOND, "best", 2, 121);
        said.refused(Due.STATE, "best", 2, 1);
        said.refused(House::full, "odds(0, 0, 0, 2), seven", Due.BEYOND, x -> x.odds(0, 0, 0, 2));
        said.refused(Due.BEYOND, "sheet", 4, 8, -1);
        said.refused(Due.BEYOND, "sheet", 3, 9, -1);
        said.refused(Due.BEYOND, "put", 4, -1, 0);
        said.refused(Due.NONE, "put", 3, -1, 0);
        said.refused(Due.BEYOND, "move", 3, 0, 4, 0, -1);
        said.refused(Due.NONE, "move", 0, 0, 3, 0, -1);
        said.refused(Due.KIND, "move", 0, 0, 1, 0, -1);
        said.refused(Due.BEYOND, "steps", 3, 2);
        said.refused(Due.BEYOND, "off", 3, 2);
        said.refused(Due.BEYOND, "fits", 3, 4);
        said.refused(Due.BEYOND, "refuse", 2, 0);
        said.refused(Due.BEYOND, "voice", 3, 4, 0);
    }

    private static TakenUp fullTape() {
        TakenUp x = House.made();
        for (int i = 0; i < 11; i++) {
            x.feed(0x3131313131L, 5);
        }
        return x;
    }

    private static TakenUp late() {
        TakenUp x = House.made();
        for (int i = 0; i < 16; i++) {
            x.minutes(600);
        }
        x.minutes(392);
        return x;
    }

    private static void quotients() {
        said.says("Quotients are cut toward 0.");
        TakenUp x = worker(0, 0);
        x.rest(3, 0, 900, 1);
        x.rest(0, 0, 900, 1);
        said.is("7 by 3", x.voice(0, 3, 7), 2);
        said.is("-7 by 3", x.voice(0, 3, -7), -2);
        said.is("7 by -1", x.voice(1, 3, 7), -7);
        said.is("(0-7)/2+4", law("(0-7)/2+4", 9), 1);
        said.is("(0-7)/(0-2)", law("(0-7)/(0-2)", 9), 3);
        said.is("DEPTH 3", keeps(BREAK, 3, 0, false), 1);
    }

    // ---- 1: workers and breaks

    private static TakenUp worker(int note, int depth) {
        TakenUp x = new TakenUp();
        x.worker(note);
        x.setWorker(0, 0, depth);
        return x;
    }

    /** A WORKER who has a STEP that takes long, and is in the midst of it or not yet. */
    private static TakenUp atStep(int note, int depth, boolean isInTheMidst) {
        TakenUp x = new TakenUp();
        x.worker(note);
        x.step(0, 60, 9);
        if (isInTheMidst) {
            Due.text(x, 1, "1");
            x.minutes(1);
        }
        x.setWorker(0, 0, depth);
        return x;
    }

    /** What a BREAK that TAKES 6 keeps, as it is asked; as it comes it must be the same. */
    private static int keeps(int km, int depth, int note, boolean isInTheMidst) {
        TakenUp x = atStep(note, depth, isInTheMidst);
        x.rest(km, 0, 0, 6);
        int keeps = x.restIs(0, 7);
        x.minutes(1);
        said.is("DEPTH behind " + km, x.workerIs(0, 0), keeps);
        said.is("LOST behind " + km, x.workerIs(0, 6), depth - keeps);
        return keeps;
    }

    /** What a TEXT of LEAVES gives, up to this DEPTH. */
    private static int law(String text, int depth) {
        TakenUp x = worker(0, depth);
        x.rest(TOLD, 0, 900, 1);
        said.is("text " + text, Due.text(x, 0, text), 1);
        return x.restIs(0, 7);
    }

    private static void workers() {
        said.says("WORKERS 0, 1, .. (at most 4)");
        TakenUp x = new TakenUp();
        for (int i = 0; i < 4; i++) {
            said.is("worker(0)", x.worker(0), i);
        }
        said.is("the fifth", x.worker(0), Due.FULL);
        said.is("the fourth", x.workerIs(3, 0), 0);
        said.is("no fifth", x.workerIs(4, 0), Due.BEYOND);

        said.says("STEPS 0, 1, .. (at most 8)");
        for (int i = 1; i <= 8; i++) {
            said.is("step", x.step(3, i, 0), i);
        }
        said.is("the ninth", x.step(3, 9, 0), Due.FULL);
        said.is("the first", x.stepIs(3, 0, 0), 1);
        said.is("the last", x.stepIs(3, 7, 0), 8);
        said.is("no ninth", x.stepIs(3, 8, 0), Due.BEYOND);
        said.is("another's first", x.step(0, 1, 0), 1);

        said.says("each so LONG (1 .. 60) and HARD (0 .. 9)");
        said.is("LONG 0", x.step(0, 0, 0), Due.BEYOND);
        said.is("LONG 61", x.step(0, 61, 0), Due.BEYOND);
        said.is("HARD -1", x.step(0, 1, -1), Due.BEYOND);
        said.is("HARD 10", x.step(0, 1, 10), Due.BEYOND);
        said.is("the least of both", x.step(0, 1, 0), 2);
        said.is("the most of both", x.step(0, 60, 9), 3);
        said.is("LONG", x.stepIs(0, 2, 0), 60);
        said.is("HARD", x.stepIs(0, 2, 1), 9);
    }

    private static void workerNumbers() {
        said.says("each have DEPTH (0 .. 99; 0 at first)");
        TakenUp x = new TakenUp();
        x.worker(0);
        x.worker(1);
        said.is("at first", x.workerIs(0, 0), 0);
        said.is("100", x.setWorker(0, 0, 100), Due.BEYOND);
        said.is("-1", x.setWorker(0, 0, -1), Due.BEYOND);
        said.is("99", x.setWorker(0, 0, 99), 0);
        said.is("0", x.setWorker(0, 0, 0), 99);

        said.says("AT (the STEP at which they are; 0 at first)");
        said.is("without STEPS", x.workerIs(0, 2), 0);
        x.step(0, 1, 0);
        x.step(0, 60, 9);
        said.is("at first", x.workerIs(0, 2), 0);
        x.setWorker(0, 0, 98);

        said.says("DONE (tenths of it that are done; 0 at first)");
        said.is("at first", x.workerIs(0, 3), 0);
        Due.text(x, 1, "9");
        x.minutes(1);
        said.is("9 tenths of 10", x.workerIs(0, 3), 9);
        said.is("still AT 0", x.workerIs(0, 2), 0);
        x.minutes(1);
        said.is("18 of 10", x.workerIs(0, 3), 0);
        said.is("AT 1", x.workerIs(0, 2), 1);

        said.says("AWAY (minutes for which they still are; 0 at first)");
        said.is("at first", x.workerIs(0, 4), 0);
        x.setWorker(0, 4, 2);
        x.minutes(1);
        said.is("one still", x.workerIs(0, 4), 1);
        x.minutes(1);
        said.is("none", x.workerIs(0, 4), 0);
        said.is("none of it was done", x.workerIs(0, 3), 0);
        x.minutes(1);
        said.is("not below 0", x.workerIs(0, 4), 0);
        said.is("now there is", x.workerIs(0, 3), 9);

        said.says("NOTE (1: they leave a note, or 0; 0 at first)");
        said.is("none", x.workerIs(0, 5), 0);
        said.is("one", x.workerIs(1, 5), 1);
        said.is("2", x.setWorker(0, 5, 2), Due.BEYOND);
        said.is("-1", x.setWorker(0, 5, -1), Due.BEYOND);
    }

    /** No 512 calls lead to 99999 (8 BREAKS and 9999 MINUTES are too few), so it is set from outside. */
    private static void lost() throws ReflectiveOperationException {
        said.says("LOST (DEPTH that was lost in all; held at 99999)");
        for (int[] w : new int[][] {{0, 40, 40}, {99958, 40, 99998}, {99959, 40, 99999}, {99960, 40, 99999},
            {99998, 1, 99999}, {99999, 0, 99999}, {99999, 40, 99999}}) {
            TakenUp x = worker(0, w[1]);
            x.rest(DUE, 0, 0, 1);
            setLost(x, w[0]);
            said.is(w[1] + " more than " + w[0] + ", AHEAD", x.then(1, 0, 6), w[2]);
            x.minutes(1);
            said.is(w[1] + " more than " + w[0], x.workerIs(0, 6), w[2]);
        }
        // and by a LOOSE MINUTE, too
        TakenUp x = atStep(0, 40, false);
        setLost(x, 99995);
        x.seed(seedBelow(9));
        x.loose(1);
        said.is("10 more by a draw", x.workerIs(0, 6), 99999);
        said.is("DEPTH", x.workerIs(0, 0), 30);
    }

    private static Object inside(Object o, String name) throws ReflectiveOperationException {
        Field field = o.getClass().getDeclaredField(name);
        field.setAccessible(true);
        return field.get(o);
    }

    private static void setInside(Object o, String name, int v) throws ReflectiveOperationException {
        Field field = o.getClass().getDeclaredField(name);
        field.setAccessible(true);
        field.setInt(o, v);
    }

    private static void setLost(TakenUp x, int lost) throws ReflectiveOperationException {
        setInside(Array.get(inside(inside(x, "now"), "workers"), 0), "lost", lost);
    }

    private static void setWaited(TakenUp x, int waited) throws ReflectiveOperationException {
        setInside(inside(x, "now"), "waited", waited);
    }

    private static void ends() {
        said.says("ENDS (the MINUTE in which the last STEP was done; -1 as long as it isn't, or without STEPS).");
        TakenUp x = new TakenUp();
        x.worker(0);
        said.is("without STEPS", x.workerIs(0, 7), -1);
        x.minutes(3);
        said.is("still without", x.workerIs(0, 7), -1);
        x.step(0, 1, 0);
        x.step(0, 1, 0);
        Due.text(x, 1, "10");
        said.is("not yet", x.workerIs(0, 7), -1);
        x.minutes(1);
        said.is("the first of two", x.workerIs(0, 7), -1);
        x.minutes(1);
        said.is("the last", x.workerIs(0, 7), 4);
        x.minutes(9);
        said.is("it stays", x.workerIs(0, 7), 4);
        TakenUp y = new TakenUp();
        y.worker(0);
        y.step(0, 1, 0);
        y.setWorker(0, 0, 99);
        y.minutes(1);
        said.is("MINUTE 0 is one", y.workerIs(0, 7), 0);
    }

    private static void breaks() {
        said.says("BREAKS 0, 1, .. (at most 8)");
        TakenUp x = new TakenUp();
        x.worker(0);
        x.worker(0);
        for (int i = 0; i < 8; i++) {
            said.is("rest", x.rest(0, i % 2, 900, 1), i);
        }
        said.is("the ninth", x.rest(0, 0, 900, 1), Due.FULL);
        said.is("the eighth", x.restIs(7, 2), 1);
        said.is("no ninth", x.restIs(8, 2), Due.BEYOND);

        said.says("of KINDS: 0 BREAK, 1 ASKED under BREAK, 2 SELF under BREAK, 3 DUE under BREAK, 4 DEEP under ASKED,"
            + " 5 SEAMED under SELF, 6 TOLD under BREAK");
        String[] above = {"0", "10", "20", "30", "410", "520", "60"};
        for (int kind = 0; kind < 7; kind++) {
            x.setRest(0, 0, kind);
            for (int other = 0; other < 7; other++) {
                boolean is = above[kind].indexOf('0' + other) >= 0;
                said.is(kind + " as " + other, x.as(0, other), is ? 1 : Due.KIND);
            }
        }
        said.is("no KIND 7", x.setRest(0, 0, 7), Due.BEYOND);
        said.is("no KIND -1", x.setRest(0, 0, -1), Due.BEYOND);

        said.says("of a WORKER");
        said.is("of 0", x.restIs(0, 2), 0);
        said.is("of 1", x.restIs(1, 2), 1);
        TakenUp y = new TakenUp();
        said.is("of none", y.rest(0, 0, 0, 1), Due.BEYOND);
        y.worker(0);
        said.is("of the only one", y.rest(0, 0, 0, 1), 0);
        said.is("of no second", y.rest(0, 1, 0, 1), Due.BEYOND);
    }

    private static void breakNumbers() {
        said.says("each with a number m (0 .. 9)");
        TakenUp x = new TakenUp();
        x.worker(0);
        x.rest(9, 0, 0, 1);
        edges(x, 1, 0, 9);

        said.says("due in a MINUTE (0 .. 999)");
        edges(x, 3, 0, 999);
        said.is("rest(0, 0, 1000, 1)", x.rest(0, 0, 1000, 1), Due.BEYOND);
        said.is("rest(0, 0, -1, 1)", x.rest(0, 0, -1, 1), Due.BEYOND);

        said.says("for so many minutes TAKES (1 .. 60)");
        edges(x, 4, 1, 60);
        said.is("rest(0, 0, 0, 0)", x.rest(0, 0, 0, 0), Due.BEYOND);
        said.is("rest(0, 0, 0, 61)", x.rest(0, 0, 0, 61), Due.BEYOND);

        said.says("of so likely TENTHS (0 .. 10; 10 at first)");
        said.is("at first", x.restIs(0, 5), 10);
        edges(x, 5, 0, 10);

        said.says("CAME (1) or not yet (0; at first).");
        said.is("at first", x.restIs(0, 6), 0);
        x.setRest(0, 3, 1);
        x.minutes(1);
        said.is("not yet", x.restIs(0, 6), 0);
        x.minutes(1);
        said.is("CAME", x.restIs(0, 6), 1);
        x.setRest(0, 3, 999);
        said.is("for good", x.restIs(0, 6), 1);
    }

    /** A number of BREAK 0 at its least and its most, and just outside them. */
    private static void edges(TakenUp x, int what, int least, int most) {
        x.setRest(0, what, most);
        said.is("below its least", x.setRest(0, what, least - 1), Due.BEYOND);
        said.is("above its most", x.setRest(0, what, most + 1), Due.BEYOND);
        said.is("its most", x.restIs(0, what), most);
        said.is("its least", x.setRest(0, what, least), most);
        said.is("its least", x.restIs(0, what), least);
    }

    private static void keeps() {
        said.says("KEEPS of a BREAK: what is left of DEPTH as it comes: BREAK: half of it.");
        said.is("of 0", keeps(BREAK, 0, 0, false), 0);
        said.is("of 1", keeps(BREAK, 1, 0, false), 0);
        said.is("of 2", keeps(BREAK, 2, 1, true), 1);
        said.is("of 99, m 9", keeps(BREAK + 9, 99, 1, true), 49);

        said.says("ASKED: as BREAK, less m.");
        said.is("of 99, m 0", keeps(ASKED, 99, 0, false), 49);
        said.is("of 99, m 9", keeps(ASKED + 9, 99, 1, true), 40);
        said.is("of 20, m 9", keeps(ASKED + 9, 20, 0, false), 1);
        said.is("of 19, m 9", keeps(ASKED + 9, 19, 0, false), 0);
        said.is("of 17, m 9", keeps(ASKED + 9, 17, 0, false), 0);

        said.says("SELF: three quarters of it.");
        int[] of = {0, 0, 1, 2, 3, 3, 4, 5, 6};
        for (int d = 0; d < of.length; d++) {
            said.is("of " + d, keeps(SELF + 9, d, 1, d % 2 == 0), of[d]);
        }
        said.is("of 99", keeps(SELF, 99, 0, false), 74);

        said.says("DUE: as BREAK, and m, if the WORKER leaves a NOTE, else 0.");
        said.is("of 99 without a NOTE", keeps(DUE + 9, 99, 0, true), 0);
        said.is("of 99 with one, m 0", keeps(DUE, 99, 1, true), 49);
        said.is("of 99 with one, m 9", keeps(DUE + 9, 99, 1, false), 58);
        said.is("of 18 with one, m 9", keeps(DUE + 9, 18, 1, false), 18);
    }

    private static void keepsByDone() {
        said.says("DEEP: as ASKED, but half of that (cut), if DONE is above 0 (one is in the midst of a STEP).");
        said.is("of 99, m 9", keeps(DEEP + 9, 99, 0, false), 40);
        said.is("of 99, m 9, in the midst", keeps(DEEP + 9, 99, 0, true), 20);
        said.is("of 99, m 8, in the midst: cut", keeps(DEEP + 8, 99, 0, true), 20);
        said.is("of 20, m 9", keeps(DEEP + 9, 20, 0, false), 1);
        said.is("of 20, m 9, in the midst: cut", keeps(DEEP + 9, 20, 0, true), 0);
        said.is("of 17, m 9, in the midst", keeps(DEEP + 9, 17, 0, true), 0);

        said.says("SEAMED: as SELF, but all of it, if DONE is 0.");
        said.is("of 99", keeps(SEAMED, 99, 0, false), 99);
        said.is("of 99 in the midst", keeps(SEAMED + 9, 99, 1, true), 74);
        said.is("of 1", keeps(SEAMED, 1, 0, false), 1);
        said.is("of 1 in the midst", keeps(SEAMED, 1, 0, true), 0);
        said.is("of 0", keeps(SEAMED, 0, 0, false), 0);
    }

    private static void keepsTold() {
        said.says("TOLD: what LEAVES gives.");
        said.is("without a TEXT", keeps(TOLD, 40, 0, false), 34);
        said.is("d/3", law("d/3", 40), 13);

        said.says("(Held within 0 .. DEPTH.)");
        said.is("ASKED below 0", keeps(ASKED + 9, 1, 0, false), 0);
        said.is("DEEP below 0", keeps(DEEP + 9, 1, 0, true), 0);
        said.is("DUE above DEPTH", keeps(DUE + 9, 17, 1, false), 17);
        said.is("DUE above DEPTH 0", keeps(DUE + 9, 0, 1, false), 0);
        said.is("TOLD below 0", keeps(TOLD, 5, 0, false), 0);
        said.is("TOLD 0", keeps(TOLD, 6, 0, false), 0);
        said.is("d", law("d", 40), 40);
        said.is("d+1", law("d+1", 40), 40);
        said.is("0-1", law("0-1", 40), 0);
        said.is("9999*9999", law("9999*9999", 99), 99);
    }

    // ---- 2: texts

    /** A WORKER of DEPTH 63 with a NOTE, a TOLD one of m 7 that TAKES 5. */
    private static TakenUp told() {
        TakenUp x = worker(1, 63);
        x.rest(TOLD + 7, 0, 900, 5);
        return x;
    }

    private static void value(String text, int want) {
        TakenUp x = told();
        said.is("text " + text, Due.text(x, 0, text), 1);
        said.is(text, x.restIs(0, 7), want);
    }

    private static void fault(String text, int place) {
        TakenUp x = told();
        said.is("FAULT of " + text, Due.text(x, 0, text), -10 - place);
        said.is("nothing told by " + text, x.restIs(0, 7), 58);
    }

    private static void tape() {
        said.says("TEXTS are read from THE TAPE (bytes, at most 60):");
        TakenUp x = told();
        String sixty = "d-1".repeat(19) + "d-2";
        said.is("60 of 60", sixty.length(), 60);
        for (int i = 1; i <= 7; i++) {
            said.is("8 bytes", x.feed(0x2B312B312B312B31L, 8), 8 * i);
        }
        said.is("5 more", x.feed(0x312B312B31L, 5), Due.FULL);
        said.is("4 more", x.feed(0x312B312BL, 4), 60);
        said.is("1 more", x.feed(0x31, 1), Due.FULL);
        // 1+1+ .. 1+, and +1+1 behind them
        said.is("a FAULT by its 57th", x.text(0), -66);
        said.is("60 bytes", Due.text(x, 0, "1+".repeat(29) + "10"), 1);
        said.is("29 and 10", x.restIs(0, 7), 39);
        said.is("60 bytes that still are too few", Due.text(x, 0, "1+".repeat(30)), -70);
        for (int sign : new int[] {0, 127, 128, 178, 255}) {
            said.is("byte " + sign, Due.text(x, 0, "1+" + (char) sign), -12);
        }
    }

    private static void grammar() {
        said.says("T: A { | A }. A: B { & B }. B: S, or S < S, S = S, S > S. S: P { + P, - P }. P: Q { * Q, / Q, % Q }.");
        value("1|0&0", 1);
        value("0&0|1", 1);
        value("0|0|4", 1);
        value("4&4&4", 1);
        value("1&2>1", 1);
        value("3=1|2", 1);
        value("1+1>1", 1);
        value("5<2+4", 1);
        value("9-3-2", 4);
        value("9-3+2", 8);
        value("2+3*4", 14);
        value("2*3+4", 10);
        value("60/5/3", 4);
        value("60/5*3", 36);
        value("60%50%4", 2);
        value("20-3*4", 8);
        value("20+7%4", 23);
        value("20-8/4", 18);
        value("2*7%4", 2);
        value("(0|0)+5", 5);
        fault("1<2<3", 3);
        fault("1=2=3", 3);
        fault("1>2<3", 3);
        fault("|1", 0);
        fault("1||1", 2);
        fault("1&|1", 2);
        fault("1+-1", 2);
        fault("1*/1", 2);
        fault("1<=1", 2);
    }

    private static void operands() {
        said.says("Q: a NUMBER of 1 to 4 digits, a NAME, ! Q, ( T ).");
        value("7", 7);
        value("0063", 63);
        value("9999-9950", 49);
        fault("10000", 4);
        fault("00000", 4);
        fault("d+12345", 6);
        value("m", 7);
        fault("mm", 1);
        fault("7m", 1);
        fault("m7", 1);
        fault("D", 0);
        value("!m", 0);
        value("!!m", 1);
        fault("!", 1);
        fault("m!", 1);
        value("!m+3", 3);
        value("(m)", 7);
        value("(m|0)", 1);
        fault("()", 1);
        fault("(m", 2);
        fault("m)", 1);
        fault("(m)m", 3);
        fault("(1)2", 3);
        fault("1+m5", 3);
        fault("!1m", 2);
        fault("2(m)", 1);
        value("!(m)", 0);
        fault("(!)", 2);

        said.says("No blanks.");
        fault(" 1", 0);
        fault("1 ", 1);
        fault("1 +1", 1);
        fault("1+ 1", 2);
        fault("1\n", 1);
        fault("1\t", 1);
    }

    private static void open() {
        said.says("At most 5 of ! and ( are open at once.");
        value("!!!!!m", 0);
        fault("!!!!!!m", 5);
        value("(((((m)))))", 7);
        fault("((((((m))))))", 5);
        value("!(!(!m))", 0);
        fault("!(!(!(m)))", 5);
        fault("!(!(!!m))", 5);
        value("(((((m)))))-(((((3)))))", 4);
        value("!!!!!0+!!!!!0", 2);
        fault("!!!!!0+!!!!!!0", 12);
        value("!0+(((((1)))))", 2);
        value("!(0)+!(((!0)))", 1);
        value("((((!0+!0))))", 2);
        fault("(((((!0)))))", 5);
        value("((((!0*(2)))))", 2);
        value("(((((1))))+((((2)))))", 3);
        value("(((((1)))+(((2)))))", 3);
        fault("(((((1)))+((((2))))))", 13);
    }

    private static void values() {
        said.says("Ints that wrap;");
        value("9999*9999*21+9999*9999<0", 1);
        value("2048*1024*1024<0", 1);
        value("2048*1024*1024*2", 0);
        value("2048*1024*1024-1>0", 1);
        value("0-2048*1024*1024=2048*1024*1024", 1);
        value("2048*1024*1024/(0-1)=2048*1024*1024", 1);
        value("2048*1024*1024%(0-1)", 0);

        said.says("/ cut, % the rest that it leaves, both by 0 are 0;");
        value("7/2", 3);
        value("(0-7)/2+9", 6);
        value("7/(0-2)+9", 6);
        value("7%4", 3);
        value("(0-7)%4+9", 6);
        value("7%(0-4)", 3);
        value("7/0", 0);
        value("7%0", 0);
        value("7/0+5", 5);
        value("7%0+5", 5);
        value("0/0+0%0", 0);
        value("9+7/(d-63)", 9);

        said.says("| & < = > ! are 1 or 0, what is not 0 being true;");
        value("5|0", 1);
        value("0|0-5", 1);
        value("(0|0)+5", 5);
        value("5&(0-5)", 1);
        value("(5&0)+5", 5);
        value("(0&5)+5", 5);
        value("(1<1)+5", 5);
        value("(2<1)+5", 5);
        value("(1>1)+5", 5);
        value("(1>2)+5", 5);
        value("(1=2)+5", 5);
        value("!7+5", 5);
        value("1=1", 1);
        value("0-1<0", 1);
        value("0-1>0", 0);
        value("!(0-5)", 0);
        value("!0", 1);

        said.says("all is worked out.");
        value("0&7/0", 0);
        value("1|7%0", 1);
        value("(1|7/0)+(0&d)+3", 4);
    }

    private static void faults() {
        said.says("FAULT: the place of the first byte with which no TEXT goes on; how many there are, if it ends too early.");
        fault("", 0);
        fault("1+", 2);
        fault("d<", 2);
        fault("!!", 2);
        fault("(((", 3);
        fault("(1+2", 4);
        fault("*", 0);
        fault("1+*2)", 2);
        fault("(1+2))+3)", 5);
        fault("1<2&3<4<5|6)", 7);
        fault("x" + "1".repeat(59), 0);
        fault("1" + "+1".repeat(29) + "x", 59);
    }

    private static void leaves() {
        said.says("USES: 0 LEAVES (of a TOLD one): NAMES d DEPTH, t TAKES, n NOTE, m m; without a TEXT d - t.");
        value("d", 63);
        value("t", 5);
        value("n", 1);
        value("m", 7);
        fault("h", 0);
        fault("l", 0);
        said.is("without a TEXT", told().restIs(0, 7), 58);
        TakenUp x = told();
        Due.text(x, 1, "1");
        said.is("without one of this USE", x.restIs(0, 7), 58);
        x.setWorker(0, 0, 5);
        said.is("d is t", x.restIs(0, 7), 0);
        x.setWorker(0, 0, 4);
        said.is("d is less than t", x.restIs(0, 7), 0);
        // only of a TOLD one
        Due.text(x, 0, "1");
        x.setWorker(0, 0, 63);
        x.setRest(0, 0, 0);
        said.is("a BREAK", x.restIs(0, 7), 31);
    }

    /** DONE behind a MINUTE at a STEP, LONG enough. */
    private static int gone(String text, int depth, int hard) {
        TakenUp x = worker(0, depth);
        x.step(0, 60, hard);
        if (!text.isEmpty()) {
            said.is("text " + text, Due.text(x, 1, text), 1);
        }
        x.minutes(1);
        return x.workerIs(0, 3);
    }

    private static void goes() {
        said.says("1 GOES (tenths of a STEP that are done in a minute): d DEPTH, h HARD, l LONG; held within 0 .. 99;"
            + " without d/(h+1)+2.");
        said.is("d", gone("d", 63, 4), 63);
        said.is("h", gone("h", 63, 4), 4);
        said.is("l", gone("l", 63, 4), 60);
        said.is("98", gone("98", 0, 0), 98);
        said.is("99", gone("99", 0, 0), 99);
        said.is("100", gone("100", 0, 0), 99);
        said.is("9999*9999", gone("9999*9999", 0, 0), 99);
        said.is("0", gone("0", 0, 0), 0);
        said.is("0-1", gone("0-1", 0, 0), 0);
        said.is("0-9999", gone("0-9999", 0, 0), 0);
        said.is("without, the least", gone("", 0, 9), 2);
        said.is("without, 9 and 9", gone("", 9, 9), 2);
        said.is("without, 10 and 9", gone("", 10, 9), 3);
        said.is("without, 99 and 1", gone("", 99, 1), 51);
        said.is("without, 97 and 0", gone("", 97, 0), 99);
        said.is("without, 98 and 0", gone("", 98, 0), 99);
        said.is("without, 99 and 0", gone("", 99, 0), 99);
        TakenUp x = told();
        for (String name : new String[] {"t", "n", "m"}) {
            said.is(name, Due.text(x, 1, name), -10);
        }
    }

    // ---- 3: the minute

    private static void minute() {
        said.says("THE MINUTE (0 .. 9999; 0 at first) goes by:");
        TakenUp x = new TakenUp();
        said.is("at first", x.count(3), 0);
        for (int i = 1; i <= 16; i++) {
            said.is("600", x.minutes(600), 600 * i);
        }
        said.is("to 10000", x.minutes(400), Due.STATE);
        said.is("to 9999", x.minutes(399), 9999);
        said.is("to 10000", x.minutes(1), Due.STATE);
        said.is("to 10000", x.loose(1), Due.STATE);
        said.is("it stays", x.count(3), 9999);

        said.says("(3) THE MINUTE is 1 more.");
        TakenUp y = new TakenUp();
        said.is("1", y.minutes(1), 1);
        said.is("2", y.minutes(1), 2);
        said.is("3, a LOOSE one", y.loose(1), 3);
    }

    private static void comesUp() {
        said.says("(1) BREAKS by numbers that haven't come, and are due in it (or were, ahead of it):");
        TakenUp x = worker(0, 0);
        x.minutes(10);
        x.rest(BREAK, 0, 10, 1);
        x.rest(BREAK, 0, 11, 1);
        x.rest(BREAK, 0, 9, 1);
        x.rest(BREAK, 0, 0, 1);
        x.minutes(1);
        said.is("due in it", x.restIs(0, 6), 1);
        said.is("due in the next", x.restIs(1, 6), 0);
        said.is("due in the one ahead", x.restIs(2, 6), 1);
        said.is("due in the first", x.restIs(3, 6), 1);
        said.is("AWAY by three of them", x.workerIs(0, 4), 2);
        x.minutes(1);
        said.is("due in the next", x.restIs(1, 6), 1);
        x.minutes(5);
        said.is("each comes once", x.workerIs(0, 4), 0);
        // by numbers, not by when they are due: the first alone takes of DEPTH
        TakenUp y = worker(0, 40);
        y.rest(SELF, 0, 5, 1);
        y.rest(BREAK, 0, 4, 1);
        y.setWorker(0, 4, 0);
        y.setRest(1, 3, 5);
        y.minutes(6);
        said.is("three quarters", y.workerIs(0, 0), 30);
    }

    private static void putOff() {
        said.says("an ASKED or DEEP one in QUIET (FROM <= MINUTE < TO) is PUT OFF till TO (is due in TO instead),"
            + " and doesn't come;");
        for (int kind = 0; kind < 7; kind++) {
            boolean isAsked = kind == 1 || kind == 4;
            said.is("KIND " + kind + " by FROM - 1", cameBy(kind, 4, 5, 9), 4);
            said.is("KIND " + kind + " by FROM", cameBy(kind, 5, 5, 9), isAsked ? 9 : 5);
            said.is("KIND " + kind + " by TO - 1", cameBy(kind, 8, 5, 9), isAsked ? 9 : 8);
            said.is("KIND " + kind + " by TO", cameBy(kind, 9, 5, 9), 9);
            said.is("KIND " + kind + ", FROM is TO", cameBy(kind, 5, 5, 5), 5);
            said.is("KIND " + kind + ", FROM is behind TO", cameBy(kind, 5, 9, 3), 5);
            said.is("KIND " + kind + ", all of it", cameBy(kind, 0, 0, 999), isAsked ? 999 : 0);
        }
        // till TO, even if it is QUIET no more; and once more, if it is QUIET then
        TakenUp x = worker(0, 40);
        x.rest(ASKED, 0, 2, 1);
        x.quiet(1, 6);
        x.minutes(3);
        x.quiet(1, 0);
        x.minutes(3);
        said.is("not yet", x.restIs(0, 6), 0);
        said.is("nothing is lost", x.workerIs(0, 0), 40);
        x.quiet(0, 6);
        x.quiet(1, 8);
        x.minutes(2);
        said.is("PUT OFF once more", x.restIs(0, 6), 0);
        x.minutes(1);
        said.is("in 8", x.restIs(0, 6), 1);
    }

    /** The MINUTE in which a BREAK of a KIND comes that is due in one. */
    private static int cameBy(int kind, int due, int from, int to) {
        TakenUp x = worker(0, 40);
        x.rest(10 * kind, 0, due, 1);
        x.quiet(0, from);
        x.quiet(1, to);
        for (int i = 0; i <= 20 && x.restIs(0, 6) == 0; i++) {
            x.minutes(1);
        }
        if (x.restIs(0, 6) == 0) {
            x.minutes(500);
            x.minutes(999 - x.count(3));
            said.is("not ahead of 999", x.restIs(0, 6), 0);
            x.minutes(1);
        }
        return x.count(3) - x.restIs(0, 6);
    }

    private static void comes() {
        said.says("else it CAME: if its WORKER isn't AWAY: DEPTH is what it KEEPS (LOST is more by what is gone), AWAY is TAKES;");
        TakenUp x = atStep(0, 41, false);
        x.rest(BREAK, 0, 0, 60);
        x.rest(BREAK, 0, 70, 1);
        x.minutes(1);
        said.worker("60", x, 0, 20, 1, 0, 0, 59, 0, 21, -1);
        x.minutes(58);
        said.worker("the last but one", x, 0, 20, 1, 0, 0, 1, 0, 21, -1);
        x.minutes(1);
        said.worker("the last", x, 0, 20, 1, 0, 0, 0, 0, 21, -1);
        x.minutes(1);
        said.worker("back", x, 0, 21, 1, 0, 4, 0, 0, 21, -1);
        x.minutes(10);
        // DEPTH is 30 ahead of MINUTE 70
        said.worker("one more", x, 0, 15, 1, 0, x.workerIs(0, 3), 0, 0, 36, -1);
        // AWAY by TAKES 1 in this MINUTE alone, but not AT work in it
        TakenUp y = atStep(0, 0, false);
        y.rest(BREAK, 0, 0, 1);
        y.minutes(1);
        said.worker("TAKES 1", y, 0, 0, 1, 0, 0, 0, 0, 0, -1);
    }

    private static void whileAway() {
        said.says("if they are: AWAY is TAKES more (999 at most; nothing else).");
        for (int[] w : new int[][] {{1, 1, 2}, {1, 60, 61}, {939, 60, 999}, {940, 60, 999}, {998, 1, 999}, {999, 1, 999},
            {999, 60, 999}}) {
            TakenUp x = atStep(0, 41, false);
            x.setWorker(0, 4, w[0]);
            x.rest(DUE, 0, 0, w[1]);
            x.minutes(1);
            said.worker(w[1] + " more than " + w[0], x, 0, 41, 1, 0, 0, w[2] - 1, 0, 0, -1);
            said.is("CAME", x.restIs(0, 6), 1);
        }
        TakenUp x = atStep(0, 41, false);
        x.rest(BREAK, 0, 0, 3);
        x.rest(DUE, 0, 0, 4);
        x.minutes(1);
        said.worker("the second of two", x, 0, 20, 1, 0, 0, 6, 0, 21, -1);
    }

    private static void waitedBehind() {
        said.says("WAITED is as many minutes more as it came behind that in which it was told to be due"
            + " (PUT OFF or not; of all KINDS).");
        for (int kind = 0; kind < 7; kind++) {
            for (int away = 0; away < 2; away++) {
                TakenUp x = worker(0, 40);
                x.setWorker(0, 4, 900 * away);
                x.rest(10 * kind, 0, 3, 1);
                x.minutes(4);
                said.is("KIND " + kind + " in its MINUTE", x.count(4), 0);
                x.rest(10 * kind, 0, 3, 1);
                x.minutes(1);
                said.is("KIND " + kind + ", 1 behind it", x.count(4), 1);
                x.rest(10 * kind, 0, 0, 1);
                x.minutes(1);
                said.is("KIND " + kind + ", 5 behind it", x.count(4), 6);
            }
        }
        TakenUp x = worker(0, 40);
        x.rest(ASKED, 0, 3, 1);
        x.quiet(1, 5);
        x.minutes(5);
        said.is("PUT OFF, still", x.count(4), 0);
        x.minutes(1);
        said.is("PUT OFF", x.count(4), 2);
        // told anew, it is behind the new one
        TakenUp y = worker(0, 40);
        y.rest(ASKED, 0, 3, 1);
        y.quiet(1, 8);
        y.minutes(5);
        y.setRest(0, 3, 6);
        y.minutes(4);
        said.is("told anew", y.count(4), 2);
    }

    private static void works() {
        said.says("(2) WORKERS by numbers: AWAY above 0: it is 1 less.");
        TakenUp x = atStep(0, 10, false);
        x.setWorker(0, 4, 999);
        x.worker(0);
        x.setWorker(1, 4, 1);
        x.minutes(1);
        said.worker("999", x, 0, 10, 1, 0, 0, 998, 0, 0, -1);
        said.worker("1, without STEPS", x, 1, 0, 0, 0, 0, 0, 0, 0, -1);
        x.minutes(1);
        said.worker("0, without STEPS", x, 1, 0, 0, 0, 0, 0, 0, 0, -1);

        said.says("Else, if AT is a STEP: DONE is more by what GOES gives (by DEPTH ahead), DEPTH is 1 more (99 at most);");
        TakenUp y = atStep(0, 97, false);
        Due.text(y, 1, "d=97");
        y.minutes(1);
        said.worker("by 97", y, 0, 98, 1, 0, 1, 0, 0, 0, -1);
        y.minutes(1);
        said.worker("to 99", y, 0, 99, 1, 0, 1, 0, 0, 0, -1);
        y.minutes(1);
        said.worker("at 99", y, 0, 99, 1, 0, 1, 0, 0, 0, -1);
        TakenUp z = worker(0, 50);
        z.minutes(1);
        said.worker("AT no STEP", z, 0, 50, 0, 0, 0, 0, 0, 0, -1);
    }

    private static void nextStep() {
        said.says("if DONE is LONG times 10 or more: AT is the next STEP, DONE is 0 (nothing goes on to it);");
        for (int goes : new int[] {9, 10, 11, 99}) {
            TakenUp x = worker(0, 0);
            x.step(0, 1, 0);
            x.step(0, 60, 0);
            Due.text(x, 1, "" + goes);
            x.minutes(1);
            said.is("AT by " + goes, x.workerIs(0, 2), goes < 10 ? 0 : 1);
            said.is("DONE by " + goes, x.workerIs(0, 3), goes < 10 ? goes : 0);
        }
        TakenUp x = worker(0, 0);
        x.step(0, 60, 0);
        x.step(0, 1, 0);
        Due.text(x, 1, "99");
        x.minutes(6);
        said.is("594 of 600", x.workerIs(0, 3), 594);
        x.minutes(1);
        said.is("693 of 600", x.workerIs(0, 3), 0);
        said.is("AT", x.workerIs(0, 2), 1);

        said.says("if it was the last one: ENDS is THE MINUTE.");
        said.is("the first of two", x.workerIs(0, 7), -1);
        x.minutes(1);
        said.is("the last", x.workerIs(0, 7), 7);
        said.is("AT is as many as there are", x.workerIs(0, 2), 2);
        said.is("DONE", x.workerIs(0, 3), 0);
        said.is("DEPTH", x.workerIs(0, 0), 8);
        x.minutes(1);
        said.is("nothing more", x.workerIs(0, 0), 8);
    }

    private static void quiet() {
        said.says("QUIET: FROM, TO (0 .. 999 both; 0 at first).");
        TakenUp x = new TakenUp();
        for (int what = 0; what < 2; what++) {
            said.is("at first", x.count(5 + what), 0);
            said.is("-1", x.quiet(what, -1), Due.BEYOND);
            said.is("1000", x.quiet(what, 1000), Due.BEYOND);
            said.is("999", x.quiet(what, 999), 0);
            said.is("0", x.quiet(what, 0), 999);
        }
    }

    /** As with LOST: 8 BREAKS that come 10000 MINUTES late aren't enough. */
    private static void waited() throws ReflectiveOperationException {
        said.says("WAITED: in all so far (0 at first; 99999 at most).");
        for (int[] w : new int[][] {{0, 40}, {99958, 99998}, {99959, 99999}, {99960, 99999}, {99999, 99999}}) {
            TakenUp x = worker(0, 0);
            said.is("at first", x.count(4), 0);
            x.minutes(40);
            x.rest(BREAK, 0, 0, 1);
            setWaited(x, w[0]);
            said.is("40 more than " + w[0] + ", AHEAD", x.waits(1), w[1]);
            x.minutes(1);
            said.is("40 more than " + w[0], x.count(4), w[1]);
        }
        TakenUp x = worker(0, 0);
        x.rest(BREAK, 0, 0, 1);
        x.rest(BREAK, 0, 0, 1);
        x.setRest(0, 3, 8);
        x.minutes(8);
        said.is("none so far", x.count(4), 0);
        x.setRest(0, 3, 3);
        x.minutes(1);
        said.is("5", x.count(4), 5);
        x.rest(BREAK, 0, 2, 1);
        x.minutes(1);
        said.is("and 7", x.count(4), 12);
    }

    private static int next(int z) {
        return z * 1103515245 + 12345;
    }

    /** A z by which the first draw's rest by 60 is just below this. */
    private static int seedBelow(int hard) {
        int z = 0;
        while ((next(z) >>> 8) % 60 != hard - 1) {
            z++;
        }
        return z;
    }

    private static void loose() {
        said.says("A LOOSE MINUTE: ahead of it, for each WORKER by numbers that isn't AWAY and is AT a STEP, a draw:");
        for (int drawing = 0; drawing < 16; drawing++) {
            // by bits: who isn't AWAY; WORKERS 0, 1, 3 have STEPS, of HARD 0, so that there is one draw each
            TakenUp x = new TakenUp();
            int z = 1;
            for (int i = 0; i < 4; i++) {
                x.worker(0);
                if (i != 2) {
                    x.step(i, 60, 0);
                }
                boolean isAway = (drawing >> i & 1) == 0;
                x.setWorker(i, 4, isAway ? 1 : 0);
                z = isAway || i == 2 ? z : next(z);
            }
            x.loose(1);
            said.is("z, drawing " + drawing, x.count(10), z);
        }
        // all done: no draw
        TakenUp done = worker(0, 99);
        done.step(0, 1, 0);
        done.minutes(1);
        done.loose(5);
        said.is("all is done", done.count(10), 1);
        looseAway();
        looseByNumbers();
    }

    private static void looseAway() {
        said.says("if its rest by 60 is below HARD of that STEP, one more draw: AWAY is its rest by 5, and 1;"
            + " DEPTH is three quarters of it (LOST as told).");
        for (int hard = 1; hard <= 9; hard++) {
            int z = seedBelow(hard);
            TakenUp x = worker(0, 42);
            x.step(0, 60, hard);
            x.seed(z);
            x.loose(1);
            int second = next(next(z));
            said.is("two draws", x.count(10), second);
            said.worker("below HARD", x, 0, 31, 1, 0, 0, (second >>> 8) % 5, 0, 11, -1);
            TakenUp y = worker(0, 42);
            y.step(0, 60, hard - 1);
            y.seed(z);
            y.loose(1);
            said.is("one draw", y.count(10), next(z));
            said.worker("it is HARD", y, 0, 43, 1, 0, 42 / hard + 2, 0, 0, 0, -1);
        }
    }

    /** Two who both go AWAY: the first draws first. */
    private static void looseByNumbers() {
        int z = 0;
        int[] d = new int[4];
        do {
            z++;
            int v = z;
            for (int i = 0; i < 4; i++) {
                v = next(v);
                d[i] = v >>> 8;
            }
        } while (d[0] % 60 >= 9 || d[2] % 60 >= 9 || d[1] % 5 == d[3] % 5);
        TakenUp x = new TakenUp();
        for (int i = 0; i < 2; i++) {
            x.worker(0);
            x.step(i, 60, 9);
            x.setWorker(i, 0, 4 * i);
        }
        x.seed(z);
        x.loose(1);
        said.worker("the first", x, 0, 0, 1, 0, 0, d[1] % 5, 0, 0, -1);
        said.worker("the second", x, 1, 3, 1, 0, 0, d[3] % 5, 0, 1, -1);
    }

    private static void draws() {
        said.says("DRAWS: z is told (1 at first); each makes it z * 1103515245 + 12345 (an int), and gives z >>> 8.");
        TakenUp x = worker(0, 0);
        x.step(0, 60, 0);
        said.is("at first", x.count(10), 1);
        x.loose(1);
        said.is("behind 1", x.count(10), 1103527590);
        x.loose(1);
        // 1103527590 * 1103515245 + 12345 by 2^32
        said.is("an int", x.count(10), (int) (1103527590L * 1103515245L + 12345L));
        for (int z : new int[] {0, -1, Integer.MAX_VALUE, Integer.MIN_VALUE}) {
            x.seed(z);
            x.loose(1);
            said.is("behind " + z, x.count(10), (int) (z * 1103515245L + 12345L));
        }
        // >>> 8 of a z below 0 is above 0: its rest by 60 is not below 0, which would be below any HARD
        int z = 0;
        while (next(z) >= 0 || (next(z) >> 8) % 60 >= 0 || (next(z) >>> 8) % 60 < 9) {
            z++;
        }
        TakenUp y = atStep(0, 40, false);
        y.seed(z);
        y.loose(1);
        said.is("one draw", y.count(10), next(z));
        said.is("not AWAY", y.workerIs(0, 0), 41);
    }
}
