import java.util.ArrayList;
import java.util.List;

/** What the tests of single sentences share: the sentence under test, what is due, and small jobs. */
abstract class Sentences {
    static final int NONE = LooseMarks.NONE, UNKNOWN = LooseMarks.UNKNOWN, OUTSIDE = LooseMarks.OUTSIDE,
            STATE = LooseMarks.STATE, ROOM = LooseMarks.ROOM;

    /** How a mark stands, as marked(mark, 0) answers it. */
    static final int UNDER_WAY = 0, WHOLE = 1, FAILED = 2, GIVEN_UP = 3;

    private static String sentence = null;
    private static int sentences = 0, askedHere = 0, asked = 0, wrong = 0;

    /** Begins the test of a sentence of the document. */
    static void says(String text) {
        close();
        sentence = text;
        sentences++;
        askedHere = 0;
    }

    private static void close() {
        if (sentence != null && askedHere == 0) {
            wrong++;
            System.out.println("nothing was asked about: " + sentence);
        }
    }

    static void due(long got, long want) {
        askedHere++;
        asked++;
        if (got != want) {
            wrong++;
            StackTraceElement[] trace = new Throwable().getStackTrace();
            // Below main stands the test of the sentence, whatever asked for it.
            System.out.println("line " + trace[trace.length - 2].getLineNumber() + ": answered " + got
                    + ", due is " + want + ", for: " + sentence);
        }
    }

    static void end() {
        close();
        System.out.println(sentences + " sentences, " + asked + " answers");
        System.out.println(wrong == 0 ? "all answers are as due" : wrong + " answers are not as due");
        if (wrong != 0) {
            System.exit(1);
        }
    }

    /** An object with so many stages and tasks in them. */
    static LooseMarks job(int... widths) {
        LooseMarks x = new LooseMarks(widths.length);
        for (int stage = 0; stage < widths.length; stage++) {
            x.wide(stage, widths[stage]);
        }
        return x;
    }

    /** INPUT rows with these keys; row n has the value 100 * n + its key. */
    static void feed(LooseMarks x, int... keys) {
        for (int key : keys) {
            x.feed(key, 100L * x.about(1) + key);
        }
    }

    static void turns(LooseMarks x, int stage, int task, int times) {
        for (int i = 0; i < times; i++) {
            x.turn(stage, task);
        }
    }

    /** The rows of a channel have just these keys, in this order. */
    static void holds(LooseMarks x, int gap, int from, int to, int... keys) {
        due(x.channel(gap, from, to, 0), keys.length);
        for (int i = 0; i < keys.length; i++) {
            due(x.key(gap, from, to, i), keys[i]);
        }
    }

    /** The rows that a mark kept for a channel have just these keys, in this order. */
    static void kept(LooseMarks x, int mark, int gap, int from, int to, int... keys) {
        due(x.kept(mark, gap, from, to), keys.length);
        for (int i = 0; i < keys.length; i++) {
            due(x.keptKey(mark, gap, from, to, i), keys[i]);
        }
    }

    /** No trace of a mark is left in tasks and channels. */
    static void noTrace(LooseMarks x) {
        due(x.about(5), NONE);
        for (int stage = 0; stage < x.about(0); stage++) {
            for (int task = 0; task < x.about(10 + stage); task++) {
                for (int what = 0; what < 3; what++) {
                    due(x.task(stage, task, what), 0);
                }
                for (int to = 0; stage + 1 < x.about(0) && to < x.about(11 + stage); to++) {
                    due(x.channel(stage, task, to, 1), NONE);
                    due(x.channel(stage, task, to, 2), 0);
                    due(x.channel(stage, task, to, 3), 0);
                }
            }
        }
    }

    /**
     * All that an object can be asked. These are more than the 512 calls after which answers are
     * free, so only an object that is thrown away afterwards is asked, or two alike.
     */
    static List<Long> picture(LooseMarks x) {
        List<Long> told = new ArrayList<>();
        for (int what = 0; what < 14; what++) {
            told.add((long) x.about(what));
        }
        for (int n = 0; n < 64; n++) {
            told.add((long) x.many(n / 16, n % 16));
            told.add(x.sum(n / 16, n % 16));
            told.add((long) x.task(n / 16, n / 4 % 4, n % 4));
        }
        for (int n = 0; n < 48; n++) {
            int gap = n / 16, from = n / 4 % 4, to = n % 4;
            for (int what = 0; what < 4; what++) {
                told.add((long) x.channel(gap, from, to, what));
            }
            for (int i = 0; i < x.channel(gap, from, to, 0); i++) {
                told.add((long) x.key(gap, from, to, i));
                told.add(x.value(gap, from, to, i));
            }
        }
        for (int mark = 0; mark < x.about(4); mark++) {
            pictureOfMark(x, mark, told);
        }
        told.add((long) x.audit());
        return told;
    }

    private static void pictureOfMark(LooseMarks x, int mark, List<Long> told) {
        for (int what = 0; what < 14; what++) {
            told.add((long) x.marked(mark, what));
        }
        for (int n = 0; n < 64; n++) {
            told.add((long) x.keptMany(mark, n / 16, n % 16));
            told.add(x.keptSum(mark, n / 16, n % 16));
        }
        for (int n = 0; n < 48; n++) {
            int gap = n / 16, from = n / 4 % 4, to = n % 4;
            int rows = x.kept(mark, gap, from, to);
            told.add((long) rows);
            for (int i = 0; i < rows; i++) {
                told.add((long) x.keptKey(mark, gap, from, to, i));
                told.add(x.keptValue(mark, gap, from, to, i));
            }
        }
    }

    /** Two objects answer all questions alike. */
    static void alike(LooseMarks x, LooseMarks y) {
        due(picture(x).equals(picture(y)) ? 1 : 0, 1);
    }
}
