/** Promises 12 to 14: the tape, texts and their faults. */
public final class TextsTest {
    private static final Due due = new Due();

    public static void main(String[] args) {
        feed();
        text();
        values();
        goes();
        faults();
        untell();
        due.end();
    }

    private static void feed() {
        TakenUp x = new TakenUp();
        due.is("feed(0, 0)", x.feed(0, 0), Due.BEYOND);
        due.is("feed(0, 9)", x.feed(0, 9), Due.BEYOND);
        due.is("feed(0, -1)", x.feed(0, -1), Due.BEYOND);
        due.is("feed(0, 1)", x.feed(0, 1), 1);
        for (int i = 1; i <= 7; i++) {
            due.is("feed 8 more", x.feed(-1L, 8), 1 + 8 * i);
        }
        due.is("57 and 4", x.feed(0, 4), Due.FULL);
        due.is("BEYOND ahead of FULL", x.feed(0, 9), Due.BEYOND);
        due.is("57 and 3", x.feed(0, 3), 60);
        due.is("60 and 1", x.feed(0, 1), Due.FULL);
        due.is("count(7)", x.count(7), 60);
        // "d-t*0-1 ", the lowest first, less its last
        TakenUp y = told();
        due.is("feed(8 bytes, 7)", y.feed(0x20312D302A742D64L, 7), 7);
        due.is("text(0)", y.text(0), 1);
        due.is("d-t*0-1", y.restIs(0, 7), 62);
        // "d-01-02-" and "3"
        due.is("8 bytes", y.feed(0x2D32302D31302D64L, 8), 8);
        due.is("1 byte of more", y.feed(0x4433L, 1), 9);
        due.is("text(0)", y.text(0), 1);
        due.is("d-01-02-3", y.restIs(0, 7), 57);
    }

    private static void text() {
        TakenUp x = told();
        Due.feed(x, "1");
        due.is("text(-1)", x.text(-1), Due.BEYOND);
        due.is("text(2)", x.text(2), Due.BEYOND);
        due.is("THE TAPE stays", x.count(7), 1);
        due.is("text(0)", x.text(0), 1);
        due.is("THE TAPE is empty", x.count(7), 0);
        due.is("1", x.restIs(0, 7), 1);
        due.is("a FAULT", Due.text(x, 0, "2+"), -12);
        due.is("THE TAPE is empty, too", x.count(7), 0);
        due.is("the one ahead stays", x.restIs(0, 7), 1);
        due.is("in its place", Due.text(x, 0, "2"), 1);
        due.is("2", x.restIs(0, 7), 2);
        due.is("no ERROR was told but two", x.told(1), 2);
        due.is("nothing at all", x.text(1), -10);
        due.is("many are open", Due.text(x, 0, "((((("), -15);
        due.is("one behind it", Due.text(x, 0, "(((((3)))))"), 1);
        due.is("3", x.restIs(0, 7), 3);
        due.is("a long one", Due.text(x, 0, "1+2*3-4/5&6|7<8"), 1);
        due.is("a short one behind it", Due.text(x, 0, "5"), 1);
        due.is("5", x.restIs(0, 7), 5);
        due.is("one that ends on !", Due.text(x, 0, "!!!1"), 1);
        due.is("a short one behind it", Due.text(x, 0, "5"), 1);
        due.is("5", x.restIs(0, 7), 5);
        due.is("one is open, signs wait", Due.text(x, 0, "4*(5-"), -15);
        due.is("one behind it", Due.text(x, 0, "6"), 1);
        due.is("6", x.restIs(0, 7), 6);
        due.is("60 bytes", Due.text(x, 0, "1+".repeat(29) + "11"), 1);
        due.is("29 and 11", x.restIs(0, 7), 40);
    }

    /** A WORKER of DEPTH 63 with a NOTE, a TOLD one of m 7 that TAKES 5. */
    private static TakenUp told() {
        TakenUp x = new TakenUp();
        x.worker(1);
        x.setWorker(0, 0, 63);
        x.rest(67, 0, 999, 5);
        return x;
    }

    private static void value(String text, int want) {
        TakenUp x = told();
        due.is("text(0) " + text, Due.text(x, 0, text), 1);
        due.is(text, x.restIs(0, 7), want);
        if (text.chars().filter(c -> c == '!' || c == '(').count() < 4) {
            // the same without the hold
            due.is("text(0) " + text + " in ()", Due.text(x, 0, "((" + text + ")=" + want + ")*9"), 1);
            due.is(text + " is it", x.restIs(0, 7), 9);
        }
    }

    private static void values() {
        value("d", 63);
        value("t", 5);
        value("n", 1);
        value("m", 7);
        value("0", 0);
        value("0009", 9);
        value("9999-9950", 49);
        value("2+3*4", 14);
        value("20-3-4", 13);
        value("20-(3-4)", 21);
        value("40/6/2", 3);
        value("47%10%4", 3);
        value("7*9/2", 31);
        value("9/2*7", 28);
        value("(1-8)/2+10", 7);
        value("(1-8)%3+10", 9);
        value("7/0", 0);
        value("7%0", 0);
        value("7/0+7%0+1", 1);
        value("!0", 1);
        value("!7", 0);
        value("!!7", 1);
        value("!0+!0", 2);
        value("!0*5", 5);
        value("!(1-1)", 1);
        value("1<2", 1);
        value("2<1", 0);
        value("2<2", 0);
        value("2>1", 1);
        value("1>2", 0);
        value("2>2", 0);
        value("2=2", 1);
        value("2=3", 0);
        value("1+1<1*3", 1);
        value("0|0", 0);
        value("0|8", 1);
        value("8|0", 1);
        value("8|4", 1);
        value("8&4", 1);
        value("8&0", 0);
        value("0&8", 0);
        value("1|0&0", 1);
        value("(1|0)&0", 0);
        value("1<2&2<3", 1);
        value("1<2|3<2|0", 1);
        value("5&7=7", 1);
        value("(1<2)<3", 1);
        value("1<(2<3)", 0);
        value("(((((d)))))", 63);
        value("!!!!!d", 0);
        value("!!!!(d)", 1);
        value("(((((1)))))+(((((2)))))+!!!!!0", 4);
        value("((((!1))))+!!!!!1", 0);
        // ints that wrap: 2147483647 + 1 is below 0
        value("(9999*9999*21+9999*9999*9<0)*8", 8);
        value("(2048*1024*1024/(0-1)<0)*3", 3);
        value("2048*1024*1024%(0-1)", 0);
        value("2048*1024*1024*2", 0);
    }

    /** What DONE becomes by a GOES in a MINUTE at DEPTH d, HARD h, LONG l. */
    private static void gone(String text, int d, int h, int l, int want) {
        TakenUp x = new TakenUp();
        x.worker(0);
        x.step(0, l, h);
        x.setWorker(0, 0, d);
        if (text != null) {
            due.is("text(1) " + text, Due.text(x, 1, text), 1);
        }
        x.minutes(1);
        due.is("GOES " + text + " at " + d + ", " + h + ", " + l, x.workerIs(0, 3), want);
    }

    private static void goes() {
        gone(null, 0, 0, 60, 2);
        gone(null, 50, 0, 60, 52);
        gone(null, 50, 9, 60, 7);
        gone(null, 50, 2, 60, 18);
        gone(null, 97, 0, 60, 99);
        gone(null, 98, 0, 60, 99);
        gone(null, 99, 0, 60, 99);
        gone("d+h*10+l-60", 3, 4, 60, 43);
        gone("l", 3, 4, 17, 17);
        gone("h", 3, 4, 17, 4);
        gone("d", 3, 4, 17, 3);
        gone("99", 3, 4, 60, 99);
        gone("100", 3, 4, 60, 99);
        gone("0-1", 3, 4, 60, 0);
        gone("9999*9999", 3, 4, 60, 99);
    }

    private static void fault(String text, int place) {
        due.is("FAULT of " + text, Due.text(told(), 0, text), -10 - place);
    }

    private static void faults() {
        fault("", 0);
        fault("x", 0);
        fault(")", 0);
        fault("+1", 0);
        fault("-1", 0);
        fault(" 1", 0);
        fault("1 ", 1);
        fault("1+", 2);
        fault("1+)", 2);
        fault("12345", 4);
        fault("(46340*1000", 5);
        fault("d1", 1);
        fault("1d", 1);
        fault("dd", 1);
        fault("d(", 1);
        fault("d!", 1);
        fault("1(", 1);
        fault("(1)(", 3);
        fault("(1)1", 3);
        fault("(1", 2);
        fault("((1)", 4);
        fault("(1))", 3);
        fault("()", 1);
        fault("!", 1);
        fault("!)", 1);
        fault("!+1", 1);
        fault("1<2<3", 3);
        fault("1=2>3", 3);
        fault("1<2+3*4=5", 7);
        fault("1<2&3<4<5", 7);
        fault("(1<2<3)", 4);
        fault("1<=2", 2);
        fault("1&&2", 2);
        fault("1||2", 2);
        fault("!!!!!!1", 5);
        fault("((((((1", 5);
        fault("!(!(!(", 5);
        fault("(((((!1", 5);
        fault("(((((1+!1", 7);
        fault("(((((1)+((1", 9);
        fault("!!!!!1+!!!!!!1", 12);
        fault("d+h", 2);
        fault("l", 0);
        fault("1^2", 1);
        fault("\u0000", 0);
        fault("1\u00b2", 1);
        fault("1\u0000", 1);
        due.is("t in GOES", Due.text(told(), 1, "d+t"), -12);
        due.is("n in GOES", Due.text(told(), 1, "n"), -10);
        due.is("m in GOES", Due.text(told(), 1, "1*m"), -12);
        due.is("d, h, l in GOES", Due.text(told(), 1, "d+h+l"), 1);
    }

    private static void untell() {
        TakenUp x = told();
        due.is("untell(-1)", x.untell(-1), Due.BEYOND);
        due.is("untell(2)", x.untell(2), Due.BEYOND);
        Due.text(x, 0, "9");
        due.is("there is none of the other USE", x.untell(1), 0);
        due.is("9", x.restIs(0, 7), 9);
        due.is("untell(0)", x.untell(0), 1);
        due.is("untell(0) again", x.untell(0), 0);
        due.is("d - t", x.restIs(0, 7), 58);
        Due.text(x, 0, "8");
        due.is("8", x.restIs(0, 7), 8);
        due.is("THE TAPE is left", x.feed(0x31, 1), 1);
        due.is("untell(0)", x.untell(0), 1);
        due.is("count(7)", x.count(7), 1);
    }
}
