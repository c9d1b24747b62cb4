import java.io.IOException;
import java.nio.file.Files;
import java.nio.file.Path;
import java.util.ArrayList;
import java.util.List;
import java.util.function.Supplier;
import java.util.function.ToLongFunction;

/**
 * Tests of single sentences of ../shared/DOC.md: says() begins one by the words that it quotes. Words that
 * the document doesn't have, a quote that no answer was held against, and words of a part of the document
 * that no test quotes are wrong, too.
 */
final class Said {
    private static final Path DOC = Path.of("../shared/DOC.md");

    private final String doc;
    private String part = "";
    private String words = "";
    private boolean[] quoted = new boolean[0];
    private String sentence = "";
    private int sentences;
    private int asked;
    private int askedBefore;
    private int wrong;

    Said() throws IOException {
        doc = Files.readString(DOC);
    }

    /** What stands under "Terms" with this number; 0: what stands ahead of the first. */
    void term(int n) {
        String terms = between(doc, "## Terms", "Ahead of the calls").replaceAll("```(text)?", "");
        String from = n == 0 ? "" : "\n" + n + ". ";
        begin("Terms " + n, between(terms, from, "\n" + (n + 1) + ". "));
    }

    void promise(int n) {
        String text = between(doc, "## Promise " + n + ": ", "\n## ");
        begin("Promise " + n, text.substring(text.indexOf("`: ") + 3));
    }

    private static String between(String text, String from, String to) {
        int start = text.indexOf(from) + from.length();
        int end = text.indexOf(to, start);
        return text.substring(start, end < 0 ? text.length() : end);
    }

    private void begin(String name, String text) {
        endPart();
        part = name;
        words = text.replaceAll("\\s+", " ").trim();
        quoted = new boolean[words.length()];
    }

    void says(String quote) {
        endSentence();
        sentence = quote;
        sentences++;
        askedBefore = asked;
        int at = words.indexOf(quote);
        while (at >= 0 && quoted[at]) {
            at = words.indexOf(quote, at + 1);
        }
        if (at < 0) {
            fault("the document doesn't say it (again)");
            return;
        }
        for (int i = at; i < at + quote.length(); i++) {
            quoted[i] = true;
        }
    }

    void is(String call, long got, long want) {
        asked++;
        if (got != want) {
            fault(call + " answered " + got + ", due is " + want);
        }
    }

    /** What workerIs() answers of a WORKER for 0, 1, .. */
    void worker(String when, TakenUp x, int worker, int... want) {
        for (int what = 0; what < want.length; what++) {
            is(when + ": workerIs(" + worker + ", " + what + ")", x.workerIs(worker, what), want[what]);
        }
    }

    /** Any of the numbers. */
    void isNot(String call, long got, long... wrongOnes) {
        asked++;
        for (long w : wrongOnes) {
            if (got == w) {
                fault(call + " answered " + got);
            }
        }
    }

    /** An ERROR, which changes nothing but what told() tells: a twin that was never asked answers the same. */
    void refused(Supplier<TakenUp> made, String call, long error, ToLongFunction<TakenUp> act) {
        TakenUp x = made.get();
        TakenUp twin = made.get();
        is(call, act.applyAsLong(x), error);
        for (int k = 1; k <= 6; k++) {
            is("told(" + k + ") behind " + call, x.told(k), twin.told(k) + (error == -1000000000L - k ? 1 : 0));
        }
        same(call, x, twin);
    }

    /** All that can be asked of both is the same behind a call. */
    void same(String call, TakenUp x, TakenUp twin) {
        List<String> of = new ArrayList<>();
        List<Long> left = House.answers(x, of);
        List<Long> right = House.answers(twin, new ArrayList<>());
        is("how much can be asked behind " + call, left.size(), right.size());
        for (int i = 0; i < Math.min(left.size(), right.size()); i++) {
            is(of.get(i) + " behind " + call, left.get(i), right.get(i));
        }
    }

    /** The same on a House, of a call by its name. */
    void refused(long error, String name, long... args) {
        refused(House::made, written(name, args), error, x -> Calls.call(x, name, args));
    }

    /**
     * Of a call that would be done, each number in turn: BEYOND below its least and above its most, neither of
     * both at them. A row of bounds a number: least, most; an empty one, if all numbers are fine.
     */
    void bounds(String name, long[] args, int[]... bounds) {
        for (int i = 0; i < bounds.length; i++) {
            if (bounds[i].length == 0) {
                continue;
            }
            for (long v : new long[] {bounds[i][0] - 1L, bounds[i][1] + 1L, Integer.MIN_VALUE, Integer.MAX_VALUE}) {
                refused(Due.BEYOND, name, with(args, i, v));
            }
            for (int v : bounds[i]) {
                long[] fine = with(args, i, v);
                isNot(written(name, fine), Calls.call(House.made(), name, fine), Due.BEYOND);
            }
        }
    }

    private static long[] with(long[] args, int i, long v) {
        long[] changed = args.clone();
        changed[i] = v;
        return changed;
    }

    static String written(String name, long... args) {
        StringBuilder s = new StringBuilder(name).append('(');
        for (int i = 0; i < args.length; i++) {
            s.append(i == 0 ? "" : ", ").append(args[i]);
        }
        return s.append(')').toString();
    }

    private void fault(String what) {
        wrong++;
        System.out.println(part + ", \"" + sentence + "\": " + what);
    }

    private void endSentence() {
        if (!sentence.isEmpty() && asked == askedBefore) {
            fault("no answer was held against it");
        }
        sentence = "";
    }

    private void endPart() {
        endSentence();
        StringBuilder left = new StringBuilder();
        boolean isMissing = false;
        for (int i = 0; i < words.length(); i++) {
            left.append(quoted[i] ? '_' : words.charAt(i));
            isMissing |= !quoted[i] && Character.isLetterOrDigit(words.charAt(i));
        }
        if (isMissing) {
            fault("no test quotes " + left.toString().replaceAll("_+", " .. "));
        }
        words = "";
        quoted = new boolean[0];
    }

    void end() {
        endPart();
        System.out.println(sentences + " sentences, " + asked + " answers, " + wrong + " wrong");
        if (wrong != 0 || asked == 0) {
            System.exit(1);
        }
    }
}
