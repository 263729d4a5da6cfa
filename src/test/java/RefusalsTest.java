import java.util.function.ToLongFunction;

/** "REFUSALS, of several the first one here .. What is refused changes nothing." */
public final class RefusalsTest extends Sentences {
    private static final int LOW = Integer.MIN_VALUE, HIGH = Integer.MAX_VALUE;

    public static void main(String[] args) {
        theMidst();
        wide();
        capacity();
        bound();
        limit();
        feed();
        turn();
        run();
        mark();
        giveUp();
        restore();
        questions();
        questionsChangeNothing();
        end();
    }

    /** Three stages of 2, 3 and 1 tasks with rows in channels, a WHOLE mark and a FAILED one. */
    private static LooseMarks ended() {
        LooseMarks x = job(2, 3, 1);
        for (int i = 0; i < 60; i++) {
            x.feed(i * 5 % 16, i - 30L);
        }
        x.run(2);
        turns(x, 0, 0, 3);
        x.mark();
        x.run(4);
        turns(x, 0, 1, 3);
        x.limit(1);
        x.mark();
        x.limit(200);
        return x;
    }

    /** The same with a mark in the midst: tasks wait, channels are shut, rows are kept. */
    private static LooseMarks underWay() {
        LooseMarks x = ended();
        x.bound(4);
        turns(x, 0, 0, 2);
        x.mark();
        turns(x, 1, 0, 2);
        turns(x, 0, 0, 3);
        turns(x, 1, 0, 1);
        turns(x, 2, 0, 2);
        turns(x, 1, 2, 5);
        turns(x, 1, 0, 1);
        turns(x, 1, 1, 4);
        return x;
    }

    /** The same with all marks, and all INPUT rows, made. */
    private static LooseMarks exhausted(boolean underWay) {
        LooseMarks x = ended();
        for (int mark = 2; mark < 8; mark++) {
            x.giveUp();
            x.mark();
        }
        if (!underWay) {
            x.giveUp();
        }
        for (int i = 60; i < 200; i++) {
            x.feed(i % 16, i);
        }
        return x;
    }

    /**
     * A call is refused so, by each of two like objects; the one that had it tells the same as the
     * one that had not, at once and after both went on.
     */
    private static void refused(int with, LooseMarks had, LooseMarks not, ToLongFunction<LooseMarks> call) {
        due(call.applyAsLong(had), with);
        alike(had, not);
        due(call.applyAsLong(had), with);
        due(had.run(3), not.run(3));
        due(had.mark(), not.mark());
        due(had.run(2), not.run(2));
        alike(had, not);
    }

    private static void inAll(int with, ToLongFunction<LooseMarks> call) {
        refused(with, ended(), ended(), call);
        refused(with, underWay(), underWay(), call);
        refused(with, exhausted(false), exhausted(false), call);
        refused(with, exhausted(true), exhausted(true), call);
    }

    private static void theMidst() {
        says("the state in which much is refused below has something of all that could change");
        LooseMarks x = underWay();
        due(x.marked(2, 0), UNDER_WAY);
        due(x.marked(2, 1), 4);
        due(x.task(1, 0, 0), 1);
        due(x.task(1, 1, 1), 1);
        due(x.task(1, 2, 2), 2);
        due(x.task(2, 0, 3), 2);
        due(x.channel(0, 1, 1, 3), 1);
        due(x.channel(0, 1, 2, 2), 1);
        due(x.channel(1, 0, 0, 1), 0);
        due(x.channel(1, 2, 0, 1), 5);
    }

    private static void wide() {
        says("wide: UNKNOWN, OUTSIDE, STATE");
        int[] none = {LOW, -1, 3, HIGH}, outside = {LOW, 0, 5, HIGH};
        LooseMarks x = new LooseMarks(3);
        for (int stage : none) {
            for (int tasks : outside) {
                due(x.wide(stage, tasks), UNKNOWN);
                inAll(UNKNOWN, y -> y.wide(stage, tasks));
            }
            due(x.wide(stage, 2), UNKNOWN);
            inAll(UNKNOWN, y -> y.wide(stage, 2));
        }
        for (int tasks : outside) {
            refused(OUTSIDE, new LooseMarks(3), new LooseMarks(3), y -> y.wide(0, tasks));
            inAll(OUTSIDE, y -> y.wide(2, tasks));
        }
        inAll(STATE, y -> y.wide(2, 4));
    }

    private static void capacity() {
        says("capacity: OUTSIDE");
        int[] outside = {LOW, -1, 0, 21, HIGH};
        for (int rows : outside) {
            inAll(OUTSIDE, y -> y.capacity(rows));
        }
    }

    private static void bound() {
        says("bound: OUTSIDE, STATE");
        int[] outside = {LOW, -2, 1001, HIGH};
        for (int turns : outside) {
            inAll(OUTSIDE, y -> y.bound(turns));
        }
        for (int turns = NONE; turns < 8; turns++) {
            int told = turns;
            refused(STATE, underWay(), underWay(), y -> y.bound(told));
        }
        refused(STATE, exhausted(true), exhausted(true), y -> y.bound(1000));
    }

    private static void limit() {
        says("limit: OUTSIDE");
        int[] outside = {LOW, -1, 201, HIGH};
        for (int rows : outside) {
            inAll(OUTSIDE, y -> y.limit(rows));
        }
    }

    private static void feed() {
        says("feed: OUTSIDE (key), ROOM");
        int[] outside = {LOW, -1, 16, HIGH};
        for (int key : outside) {
            inAll(OUTSIDE, y -> y.feed(key, 7));
        }
        for (int key = 0; key < 16; key++) {
            int told = key;
            refused(ROOM, exhausted(false), exhausted(false), y -> y.feed(told, 7));
        }
        refused(ROOM, exhausted(true), exhausted(true), y -> y.feed(0, Long.MIN_VALUE));
    }

    private static void turn() {
        says("turn: UNKNOWN");
        int[][] none = {{-1, 0}, {3, 0}, {0, 2}, {0, -1}, {1, 3}, {2, 1}, {LOW, LOW}, {HIGH, HIGH}};
        for (int[] at : none) {
            inAll(UNKNOWN, y -> y.turn(at[0], at[1]));
        }
    }

    private static void run() {
        says("run: OUTSIDE");
        int[] outside = {LOW, -1, 0, 51, HIGH};
        for (int rounds : outside) {
            inAll(OUTSIDE, y -> y.run(rounds));
        }
    }

    private static void mark() {
        says("mark: STATE, ROOM");
        refused(STATE, underWay(), underWay(), y -> y.mark());
        // Both at once.
        refused(STATE, exhausted(true), exhausted(true), y -> y.mark());
        refused(ROOM, exhausted(false), exhausted(false), y -> y.mark());
    }

    private static void giveUp() {
        says("giveUp: STATE");
        refused(STATE, new LooseMarks(2), new LooseMarks(2), y -> y.giveUp());
        refused(STATE, ended(), ended(), y -> y.giveUp());
        refused(STATE, exhausted(false), exhausted(false), y -> y.giveUp());
    }

    private static void restore() {
        says("restore: UNKNOWN, OUTSIDE, STATE");
        int[] none = {LOW, -1, 8, HIGH}, outside = {LOW, -1, 0, 5, HIGH};
        for (int mark : none) {
            inAll(UNKNOWN, y -> y.restore(mark, 1, 1, 1, 1));
            inAll(UNKNOWN, y -> y.restore(mark, 0, 1, 1, 1));
        }
        due(ended().marked(0, 0), WHOLE);
        due(ended().marked(1, 0), FAILED);
        due(underWay().marked(2, 0), UNDER_WAY);
        due(exhausted(false).marked(7, 0), GIVEN_UP);
        for (int p : outside) {
            for (int mark = 0; mark < 2; mark++) {
                int told = mark;
                inAll(OUTSIDE, y -> y.restore(told, p, 2, 2, 2));
                inAll(OUTSIDE, y -> y.restore(told, 2, p, 2, 2));
                inAll(OUTSIDE, y -> y.restore(told, 2, 2, p, 2));
            }
            refused(OUTSIDE, underWay(), underWay(), y -> y.restore(2, p, 2, 2, 2));
            refused(OUTSIDE, exhausted(false), exhausted(false), y -> y.restore(7, 2, 2, p, 2));
        }
        inAll(STATE, y -> y.restore(1, 2, 2, 2, 0));
        refused(STATE, underWay(), underWay(), y -> y.restore(2, 2, 2, 2, 2));
        refused(STATE, exhausted(false), exhausted(false), y -> y.restore(7, 2, 2, 2, 2));
        refused(STATE, exhausted(true), exhausted(true), y -> y.restore(7, 2, 2, 2, 2));
        refused(UNKNOWN, ended(), ended(), y -> y.restore(2, 0, 0, 0, 0));
    }

    private static void questions() {
        says("of several the first one here: UNKNOWN .., OUTSIDE .. (of what is only asked)");
        LooseMarks x = underWay();
        int[] odd = {LOW, -1, 17, 49, HIGH};
        for (int n : odd) {
            due(x.about(n), OUTSIDE);
            due(x.many(n, 16), UNKNOWN);
            due(x.many(2, n), OUTSIDE);
            due(x.task(n, 0, 4), UNKNOWN);
            due(x.task(0, n, 4), UNKNOWN);
            due(x.task(0, 0, n), OUTSIDE);
            due(x.channel(n, 0, 0, 4), UNKNOWN);
            due(x.channel(0, n, 0, 4), UNKNOWN);
            due(x.channel(0, 0, n, 4), UNKNOWN);
            due(x.channel(0, 0, 0, n), OUTSIDE);
            due(x.key(n, 0, 0, n), UNKNOWN);
            due(x.key(0, n, 0, n), UNKNOWN);
            due(x.key(0, 0, n, n), UNKNOWN);
            due(x.key(0, 0, 0, n), NONE);
            due(x.marked(n, 4), UNKNOWN);
            due(x.marked(0, n), OUTSIDE);
            due(x.keptMany(n, 0, 16), UNKNOWN);
            due(x.keptMany(0, n, 16), UNKNOWN);
            due(x.keptMany(0, 0, n), OUTSIDE);
            due(x.kept(n, n, 0, 0), UNKNOWN);
            due(x.keptKey(n, 0, 0, 0, n), UNKNOWN);
            due(x.keptKey(0, n, 0, 0, n), UNKNOWN);
            due(x.keptKey(0, 0, n, 0, n), UNKNOWN);
            due(x.keptKey(0, 0, 0, n, n), UNKNOWN);
            due(x.keptKey(0, 0, 0, 0, n), NONE);
            due(x.sum(n, n), 0);
            due(x.value(n, n, n, n), 0);
            due(x.keptSum(n, n, n), 0);
            due(x.keptValue(n, n, n, n, n), 0);
        }
    }

    private static void questionsChangeNothing() {
        says("What is refused changes nothing (nor does what is only asked)");
        LooseMarks had = underWay(), not = underWay();
        for (int n = 0; n < 400; n++) {
            int a = n % 7 - 1, b = n / 7 % 7 - 1;
            had.about(a);
            had.many(a, b);
            had.sum(a, b);
            had.task(a, b, a);
            had.channel(a, b, a, b);
            had.key(a, b, b, a);
            had.value(a, b, b, a);
            had.marked(a, b);
            had.keptMany(a, b, a);
            had.keptSum(a, b, a);
            had.kept(a, b, a, b);
            had.keptKey(a, b, a, b, a);
            had.keptValue(a, b, a, b, a);
            had.audit();
        }
        alike(had, not);
        due(had.run(30), not.run(30));
        alike(had, not);
    }
}
