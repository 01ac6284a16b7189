import java.io.IOException;
import java.nio.file.Files;
import java.nio.file.Path;
import java.util.ArrayList;
import java.util.List;
import java.util.function.Supplier;
import java.util.function.ToLongFunction;

/**
 * What the tests of boundary cases share. Each of them names the sentence of the document that it is
 * about; a sentence that the document does not have is a fault of the test.
 */
abstract class Check extends Tables {
    static final int NONE = -1, OUTSIDE = -1001, STATE = -1002, FULL = -1003, LARGE = -1004;
    /** Numbers that lie far out of every bound. */
    private static final int[] FAR = {Integer.MIN_VALUE, Integer.MIN_VALUE + 1, -1002, -65, 65, 266, 65536,
        Integer.MAX_VALUE - 1, Integer.MAX_VALUE};
    private static final int DRAWS_SEEN = 40;

    private static final String DOCUMENT = document();
    private static String sentence = "";
    private static int sentences = 0;
    private static int answers = 0;
    private static int wrong = 0;

    /** A call with one of its numbers left open. */
    interface Asked {
        long of(ShoeTable x, int v);
    }

    private static String plain(String text) {
        return text.replaceAll("\\s+", " ").trim();
    }

    private static String document() {
        try {
            return plain(Files.readString(Path.of("../shared/DOC.md")));
        } catch (IOException e) {
            throw new IllegalStateException(e);
        }
    }

    /** The answers that follow are due by this sentence. */
    static void says(String words) {
        sentence = words;
        sentences++;
        if (!DOCUMENT.contains(plain(words))) {
            wrong++;
            System.out.println("the document does not say: " + words);
        }
    }

    static void due(String call, long got, long want) {
        answers++;
        if (got != want) {
            wrong++;
            System.out.println("'" + sentence + "': " + call + " answered " + got + ", due is " + want);
        }
    }

    static void holds(String what, boolean so) {
        due(what, so ? 1 : 0, 1);
    }

    static void end() {
        System.out.println(sentences + " sentences, " + answers + " answers, " + wrong + " not as due");
        if (wrong != 0) {
            System.exit(1);
        }
    }

    /** The call is refused by this answer, again and again, and nothing has changed by it. */
    static void refused(String call, Supplier<ShoeTable> made, ToLongFunction<ShoeTable> asked, long want) {
        ShoeTable x = made.get();
        due(call, asked.applyAsLong(x), want);
        due(call + " again", asked.applyAsLong(x), want);
        sameAs(call, x, made.get());
    }

    /** The call only asks: the object is as one that was not asked. */
    static void onlyAsks(String call, Supplier<ShoeTable> made, ToLongFunction<ShoeTable> asked) {
        ShoeTable x = made.get();
        asked.applyAsLong(x);
        sameAs(call, x, made.get());
    }

    private static void sameAs(String call, ShoeTable x, ShoeTable untouched) {
        List<String> got = seen(x);
        List<String> want = seen(untouched);
        for (int i = 0; i < want.size(); i++) {
            answers++;
            if (!got.get(i).equals(want.get(i))) {
                wrong++;
                System.out.println("'" + sentence + "': " + call + " changed something: " + got.get(i)
                    + ", without it " + want.get(i));
            }
        }
    }

    /** The numbers of a bound are not OUTSIDE; those beside it, and far off, are, and change nothing. */
    static void bound(String call, Supplier<ShoeTable> made, Asked asked, int least, int most) {
        for (int v = least; v <= most; v++) {
            holds(call + " of " + v + " is not outside", asked.of(made.get(), v) != OUTSIDE);
        }
        outside(call, made, asked, least - 1);
        outside(call, made, asked, most + 1);
        for (int v : FAR) {
            outside(call, made, asked, v);
        }
    }

    static void outside(String call, Supplier<ShoeTable> made, Asked asked, int v) {
        refused(call + " of " + v, made, x -> asked.of(x, v), OUTSIDE);
    }

    /** All that can be seen of an object by some 200 calls; the last ones of them use it up. */
    static List<String> seen(ShoeTable x) {
        List<String> all = new ArrayList<>();
        for (int r = 0; r <= 10; r++) {
            all.add("left(" + r + ") = " + x.left(r));
        }
        for (int what = 0; what <= 21; what++) {
            all.add("told(" + what + ") = " + x.told(what));
        }
        for (int act = 0; act <= 4; act++) {
            all.add("there(" + act + ") = " + x.there(act));
            all.add("worth(" + act + ") = " + x.worth(act, 0) + "/" + x.worth(act, 1));
        }
        all.add("best() = " + x.best());
        for (int e = 0; e <= 21; e++) {
            all.add("chance(" + e + ") = " + x.chance(e, 0) + "/" + x.chance(e, 1));
        }
        all.add("deal = " + x.deal(0) + "/" + x.deal(1));
        for (int r = 1; r <= 10; r++) {
            all.add("moved(" + r + ") = " + x.moved(r, 0) + "/" + x.moved(r, 1));
            all.add("known(" + r + ") = " + x.known(r, 0) + "/" + x.known(r, 1));
        }
        useUp(x, all);
        return all;
    }

    /** Rules, marks and THE DRAW are seen only by changing them. */
    private static void useUp(ShoeTable x, List<String> all) {
        int[] first = {21, 17, 0, 1, 1, 1, 3};
        for (int what = 0; what <= 6; what++) {
            all.add("rule " + what + " was " + x.rule(what, first[what]));
        }
        for (int r = 1; r <= 10; r++) {
            all.add("mark of " + r + " was " + x.mark(r, 0));
        }
        for (int i = 0; i < DRAWS_SEEN; i++) {
            all.add("draw " + i + " = " + x.draw(2));
        }
    }
}
