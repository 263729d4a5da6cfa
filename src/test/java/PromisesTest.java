/** For each promise: ordinary inputs, the edges that the document names, and wrong inputs. */
public final class PromisesTest {
    private static final int NONE = LooseMarks.NONE, UNKNOWN = LooseMarks.UNKNOWN,
            OUTSIDE = LooseMarks.OUTSIDE, STATE = LooseMarks.STATE, ROOM = LooseMarks.ROOM;
    private static int wrong = 0;
    private static int promise = 0;
    private static int asked = 0;

    private static void due(long got, long want) {
        asked++;
        if (got != want) {
            wrong++;
            StackTraceElement at = new Throwable().getStackTrace()[1];
            System.out.println("promise " + promise + ", line " + at.getLineNumber()
                    + ": answered " + got + ", due is " + want);
        }
    }

    private static void begin(int number) {
        promise = number;
    }

    /** An object with so many stages and tasks in them. */
    private static LooseMarks job(int... widths) {
        LooseMarks x = new LooseMarks(widths.length);
        for (int stage = 0; stage < widths.length; stage++) {
            x.wide(stage, widths[stage]);
        }
        return x;
    }

    private static void feedKeys(LooseMarks x, int... keys) {
        for (int key : keys) {
            x.feed(key, 10L * x.about(1) + key);
        }
    }

    private static void turns(LooseMarks x, int stage, int task, int times) {
        for (int i = 0; i < times; i++) {
            x.turn(stage, task);
        }
    }

    public static void main(String[] args) {
        newObject();
        wide();
        capacity();
        bound();
        limit();
        feed();
        turnOfStage0();
        turnTakesRowsGoingRound();
        turnBarrierFirst();
        turnByBound();
        run();
        markStrict();
        markLoose();
        markFails();
        markFailsInATurn();
        markWaitsAndShuts();
        looseChannelEndsWaiting();
        giveUp();
        restore();
        restoreOrder();
        restoreGoesOn();
        about();
        manyAndSum();
        task();
        channel();
        keyAndValue();
        marked();
        keptManyAndSum();
        keptRows();
        audit();
        System.out.println(asked + " answers asked");
        System.out.println(wrong == 0 ? "all answers are as due" : wrong + " answers are not as due");
        if (wrong != 0) {
            System.exit(1);
        }
    }

    private static void newObject() {
        begin(1);
        int[] told = {Integer.MIN_VALUE, -1, 0, 1, 2, 3, 4, 5, Integer.MAX_VALUE};
        int[] have = {2, 2, 2, 2, 2, 3, 4, 4, 4};
        for (int i = 0; i < told.length; i++) {
            LooseMarks x = new LooseMarks(told[i]);
            due(x.about(0), have[i]);
            due(x.about(10 + have[i] - 1), 1);
            due(x.about(10 + have[i]), OUTSIDE);
        }
        LooseMarks x = new LooseMarks(3);
        int[] first = {3, 0, 0, 0, 0, NONE, 0, 5, 0, 200, 1, 1, 1};
        for (int what = 0; what < first.length; what++) {
            due(x.about(what), first[what]);
        }
        due(x.audit(), 0);
    }

    private static void wide() {
        begin(2);
        LooseMarks x = new LooseMarks(3);
        due(x.wide(0, 4), 1);
        due(x.wide(0, 2), 4);
        due(x.wide(2, 3), 1);
        due(x.wide(-1, 9), UNKNOWN);
        due(x.wide(3, 1), UNKNOWN);
        due(x.wide(1, 0), OUTSIDE);
        due(x.wide(1, 5), OUTSIDE);
        due(x.about(10), 2);
        due(x.about(11), 1);
        due(x.about(12), 3);
        feedKeys(x, 0);
        due(x.wide(1, 1), 1);
        due(x.turn(3, 0), UNKNOWN);
        due(x.wide(1, 2), 1);
        due(x.turn(1, 0), 0);
        due(x.wide(1, 1), STATE);
        due(x.wide(1, 5), OUTSIDE);
        due(x.wide(4, 5), UNKNOWN);
        LooseMarks marked = new LooseMarks(2);
        marked.mark();
        due(marked.wide(0, 2), STATE);
        marked.giveUp();
        due(marked.wide(0, 2), STATE);
        due(marked.about(10), 1);
    }

    private static void capacity() {
        begin(3);
        LooseMarks x = new LooseMarks(2);
        due(x.capacity(20), 5);
        due(x.capacity(1), 20);
        due(x.capacity(0), OUTSIDE);
        due(x.capacity(21), OUTSIDE);
        due(x.about(7), 1);
        feedKeys(x, 0, 0, 0);
        due(x.turn(0, 0), 1);
        due(x.turn(0, 0), 0);
        due(x.capacity(2), 1);
        due(x.turn(0, 0), 1);
        due(x.turn(0, 0), 0);
        x.mark();
        due(x.capacity(1), 2);
        due(x.turn(0, 0), 0);
        due(x.channel(0, 0, 0, 0), 2);
    }

    private static void bound() {
        begin(4);
        LooseMarks x = new LooseMarks(2);
        due(x.bound(1000), 0);
        due(x.bound(NONE), 1000);
        due(x.bound(7), NONE);
        due(x.bound(1001), OUTSIDE);
        due(x.bound(-2), OUTSIDE);
        due(x.about(8), 7);
        x.mark();
        due(x.bound(0), STATE);
        due(x.bound(1001), OUTSIDE);
        due(x.about(8), 7);
        x.giveUp();
        due(x.bound(0), 7);
    }

    private static void limit() {
        begin(5);
        LooseMarks x = new LooseMarks(2);
        due(x.limit(0), 200);
        due(x.limit(200), 0);
        due(x.limit(-1), OUTSIDE);
        due(x.limit(201), OUTSIDE);
        due(x.about(9), 200);
        feedKeys(x, 0, 0);
        x.run(1);
        turns(x, 0, 0, 1);
        x.bound(0);
        x.mark();
        due(x.limit(3), 200);
        due(x.about(9), 3);
    }

    private static void feed() {
        begin(6);
        LooseMarks x = new LooseMarks(2);
        due(x.feed(-1, 1), OUTSIDE);
        due(x.feed(16, 1), OUTSIDE);
        for (int i = 0; i < 200; i++) {
            due(x.feed(i % 16, Long.MAX_VALUE - i), i);
        }
        due(x.feed(0, 1), ROOM);
        due(x.feed(16, 1), OUTSIDE);
        due(x.about(1), 200);
        due(x.about(2), 0);
        due(x.turn(0, 0), 1);
        due(x.value(0, 0, 0, 0), Long.MAX_VALUE);
        due(x.feed(0, 1), ROOM);
    }

    private static void turnOfStage0() {
        begin(7);
        LooseMarks x = job(2, 2);
        x.capacity(1);
        feedKeys(x, 1, 3, 0, 2);
        due(x.turn(0, 2), UNKNOWN);
        due(x.turn(0, -1), UNKNOWN);
        due(x.turn(-1, 0), UNKNOWN);
        due(x.turn(2, 0), UNKNOWN);
        due(x.about(3), 0);
        due(x.turn(0, 0), 1);
        due(x.key(0, 0, 0, 0), 0);
        due(x.turn(0, 0), 0);
        due(x.turn(0, 1), 1);
        due(x.key(0, 1, 1, 0), 1);
        due(x.turn(0, 1), 0);
        due(x.about(3), 4);
        due(x.about(2), 2);
        // Only the first row that is not READ is looked at: a full channel stops those behind it.
        LooseMarks y = job(1, 2);
        y.capacity(1);
        feedKeys(y, 0, 2, 1);
        due(y.turn(0, 0), 1);
        due(y.turn(0, 0), 0);
        due(y.turn(1, 0), 1);
        due(y.turn(0, 0), 1);
        due(y.turn(0, 0), 1);
        due(y.turn(0, 0), 0);
        due(y.feed(1, 5), 3);
        due(y.turn(1, 1), 1);
        due(y.turn(0, 0), 1);
    }

    private static void turnTakesRowsGoingRound() {
        begin(7);
        LooseMarks x = job(3, 1, 2);
        feedKeys(x, 0, 3, 6, 1, 4, 2, 5);
        for (int task = 0; task < 3; task++) {
            turns(x, 0, task, 3);
        }
        int[] next = {1, 2, 0, 1, 2, 0, 1};
        for (int i = 0; i < next.length; i++) {
            due(x.turn(1, 0), 1);
            due(x.task(1, 0, 3), next[i]);
        }
        due(x.turn(1, 0), 0);
        due(x.task(1, 0, 3), 1);
        int[] even = {0, 2, 4, 6};
        for (int i = 0; i < even.length; i++) {
            due(x.key(1, 0, 0, i), even[i]);
        }
        // A row whose way is full is passed over, and the search goes on to the next channel.
        LooseMarks y = job(2, 1, 2);
        y.capacity(2);
        feedKeys(y, 0, 2, 4, 1, 3);
        turns(y, 0, 0, 2);
        turns(y, 0, 1, 1);
        due(y.turn(1, 0), 1);
        due(y.turn(1, 0), 1);
        due(y.turn(1, 0), 1);
        turns(y, 0, 0, 1);
        turns(y, 0, 1, 1);
        due(y.task(1, 0, 3), 1);
        due(y.turn(1, 0), 1);
        due(y.task(1, 0, 3), 0);
        due(y.turn(1, 0), 0);
        due(y.task(1, 0, 3), 0);
        due(y.turn(2, 0), 1);
        due(y.turn(1, 0), 1);
        due(y.many(1, 4), 1);
        due(y.turn(2, 1), 1);
        due(y.turn(2, 1), 1);
        due(y.turn(2, 1), 0);
    }

    private static void turnBarrierFirst() {
        begin(7);
        LooseMarks x = job(2, 1);
        x.bound(NONE);
        feedKeys(x, 0, 1);
        turns(x, 0, 0, 1);
        x.mark();
        due(x.channel(0, 0, 0, 1), 1);
        due(x.channel(0, 1, 0, 1), 0);
        // The barrier of channel 1 goes before the row of channel 0.
        due(x.turn(1, 0), 2);
        due(x.channel(0, 1, 0, 2), 1);
        due(x.many(1, 0), 0);
        due(x.task(1, 0, 3), 0);
        due(x.turn(1, 0), 1);
        due(x.task(1, 0, 3), 1);
        due(x.turn(1, 0), 2);
        due(x.marked(0, 0), 1);
        due(x.task(1, 0, 3), 1);
    }

    private static void turnByBound() {
        begin(7);
        for (int bound = 1; bound <= 4; bound++) {
            LooseMarks x = job(2, 1);
            x.bound(bound);
            feedKeys(x, 1, 1, 1);
            turns(x, 0, 1, 1);
            x.mark();
            due(x.turn(1, 0), 2);
            due(x.task(1, 0, 1), 1);
            turns(x, 0, 0, bound - 1);
            due(x.task(1, 0, 1), 1);
            due(x.task(1, 0, 0), 0);
            due(x.turn(1, 0), 3);
            due(x.task(1, 0, 1), 0);
            due(x.task(1, 0, 0), 1);
            due(x.turn(1, 0), 1);
            due(x.kept(0, 0, 1, 0), 1);
            due(x.turn(1, 0), 2);
            due(x.marked(0, 0), 1);
        }
        // One turn too few: a row is taken instead.
        LooseMarks x = job(2, 1);
        x.bound(2);
        feedKeys(x, 1);
        turns(x, 0, 1, 1);
        x.mark();
        due(x.turn(1, 0), 2);
        due(x.turn(1, 0), 1);
        due(x.many(1, 1), 1);
        due(x.kept(0, 0, 1, 0), 0);
        // Its last barrier, in front, goes before the bound.
        due(x.turn(1, 0), 2);
        due(x.marked(0, 0), 1);
        // Without a bound it waits for ever.
        LooseMarks y = job(2, 1);
        y.bound(NONE);
        y.capacity(1);
        feedKeys(y, 1, 0);
        turns(y, 0, 1, 1);
        y.mark();
        turns(y, 0, 0, 1);
        due(y.turn(1, 0), 2);
        turns(y, 0, 0, 400);
        due(y.turn(1, 0), 1);
        due(y.task(1, 0, 1), 1);
    }

    private static void run() {
        begin(8);
        LooseMarks x = job(2, 3, 1);
        due(x.run(0), OUTSIDE);
        due(x.run(-1), OUTSIDE);
        due(x.run(51), OUTSIDE);
        due(x.about(3), 0);
        due(x.run(1), 0);
        due(x.about(3), 6);
        feedKeys(x, 0, 1, 2);
        // Rows 0 and 1 go the whole way in one round, stage by stage.
        due(x.run(1), 5);
        due(x.about(6), 1);
        due(x.many(2, 0) + x.many(2, 1), 1);
        due(x.run(50), 4);
        due(x.about(3), 6 * 52);
        due(x.many(2, 0) + x.many(2, 1) + x.many(2, 2), 3);
        due(x.run(50), 0);
        x.mark();
        due(x.run(1), 2 * 1 + 1 * 1 + 1);
    }

    private static void markStrict() {
        begin(9);
        LooseMarks x = job(1, 1, 1);
        x.bound(NONE);
        feedKeys(x, 0, 1, 2, 3);
        turns(x, 0, 0, 3);
        turns(x, 1, 0, 1);
        due(x.mark(), 0);
        due(x.about(5), 0);
        due(x.mark(), STATE);
        due(x.about(4), 1);
        due(x.channel(0, 0, 0, 1), 2);
        due(x.channel(1, 0, 0, 1), NONE);
        due(x.task(0, 0, 0), 1);
        due(x.task(1, 0, 0), 0);
        turns(x, 0, 0, 1);
        due(x.channel(0, 0, 0, 1), 2);
        due(x.channel(0, 0, 0, 0), 3);
        due(x.turn(1, 0), 1);
        due(x.channel(0, 0, 0, 1), 1);
        due(x.turn(1, 0), 1);
        due(x.channel(0, 0, 0, 1), 0);
        due(x.turn(1, 0), 2);
        due(x.channel(1, 0, 0, 1), 3);
        due(x.turn(1, 0), 1);
        turns(x, 2, 0, 3);
        due(x.about(5), 0);
        due(x.turn(2, 0), 2);
        due(x.about(5), NONE);
        due(x.marked(0, 0), 1);
        due(x.marked(0, 1), 0);
        due(x.marked(0, 2), 0);
        for (int key = 0; key < 4; key++) {
            due(x.keptMany(0, 2, key), key < 3 ? 1 : 0);
        }
        for (int number = 1; number < 8; number++) {
            due(x.mark(), number);
            due(x.giveUp(), number);
        }
        due(x.mark(), ROOM);
        due(x.about(4), 8);
        // Of two refusals the first: one under way goes before no room.
        LooseMarks y = job(1, 1);
        for (int number = 0; number < 7; number++) {
            y.mark();
            y.giveUp();
        }
        due(y.mark(), 7);
        due(y.mark(), STATE);
        due(y.giveUp(), 7);
        due(y.mark(), ROOM);
    }

    private static void markLoose() {
        begin(9);
        LooseMarks x = job(1, 2, 1);
        feedKeys(x, 0, 1, 2, 3, 4);
        turns(x, 0, 0, 4);
        turns(x, 1, 0, 1);
        due(x.mark(), 0);
        due(x.marked(0, 1), 3);
        due(x.marked(0, 2), 2);
        due(x.channel(0, 0, 0, 1), 0);
        due(x.channel(0, 0, 1, 1), 0);
        turns(x, 0, 0, 1);
        due(x.channel(0, 0, 0, 0), 2);
        due(x.turn(1, 0), 2);
        due(x.task(1, 0, 0), 1);
        due(x.channel(1, 0, 0, 1), 0);
        due(x.kept(0, 1, 0, 0), 1);
        due(x.keptKey(0, 1, 0, 0, 0), 0);
        // Task 1 of stage 1 is late: what it sends now belongs to the mark.
        due(x.turn(2, 0), 2);
        due(x.task(2, 0, 0), 1);
        due(x.turn(2, 0), 1);
        due(x.kept(0, 1, 0, 0), 1);
        due(x.turn(1, 1), 2);
        due(x.turn(1, 1), 1);
        due(x.turn(2, 0), 2);
        due(x.marked(0, 0), 1);
        due(x.marked(0, 1), 4);
        due(x.marked(0, 2), 4);
        due(x.kept(0, 0, 0, 1), 2);
        due(x.keptMany(0, 2, 0), 0);
        due(x.audit(), 0);
    }

    private static void markFails() {
        begin(9);
        LooseMarks x = job(2, 2);
        feedKeys(x, 0, 2, 1, 3);
        turns(x, 0, 0, 2);
        turns(x, 0, 1, 2);
        x.limit(3);
        due(x.mark(), 0);
        due(x.about(5), NONE);
        due(x.marked(0, 0), 2);
        due(x.marked(0, 1), 3);
        due(x.marked(0, 2), 4);
        due(x.marked(0, 3), 0);
        due(x.channel(0, 0, 0, 1), NONE);
        due(x.channel(0, 1, 1, 1), NONE);
        due(x.kept(0, 0, 1, 1), 1);
        due(x.task(0, 0, 0), 0);
        x.limit(1);
        due(x.mark(), 1);
        due(x.marked(1, 0), 2);
        due(x.marked(1, 1), 1);
        // The first channel fails it: no barrier goes into the second, and task 1 takes no part.
        due(x.marked(1, 2), 1);
        due(x.keptMany(1, 0, 0), 1);
        due(x.keptMany(1, 0, 1), 0);
        x.limit(4);
        due(x.mark(), 2);
        due(x.marked(2, 0), 0);
        due(x.marked(2, 1), 4);
        // A limit below what is kept is felt with the next row only; here none comes.
        due(x.limit(0), 4);
        due(x.run(2), 4);
        due(x.marked(2, 0), 1);
    }

    private static void markFailsInATurn() {
        begin(9);
        // By a row that a task takes after it took part: the row is taken all the same.
        LooseMarks x = job(2, 1, 1);
        x.bound(1);
        x.limit(0);
        feedKeys(x, 1, 3);
        turns(x, 0, 1, 2);
        x.mark();
        due(x.turn(1, 0), 2);
        due(x.turn(1, 0), 3);
        due(x.channel(1, 0, 0, 1), 0);
        due(x.marked(0, 2), 1);
        due(x.turn(1, 0), 1);
        due(x.marked(0, 0), 2);
        due(x.marked(0, 1), 0);
        due(x.marked(0, 2), 2);
        due(x.marked(0, 3), 3);
        due(x.many(1, 1), 1);
        due(x.channel(1, 0, 0, 0), 1);
        due(x.channel(1, 0, 0, 1), NONE);
        due(x.channel(0, 1, 0, 1), NONE);
        due(x.channel(0, 0, 0, 2), 0);
        due(x.task(1, 0, 0), 0);
        due(x.task(1, 0, 2), 0);
        due(x.turn(1, 0), 1);
        due(x.about(3), 6);
        due(x.marked(0, 3), 3);
        // By the rows that a barrier overtakes: the turn answers as it would have.
        LooseMarks y = job(1, 1, 2);
        feedKeys(y, 0, 1);
        turns(y, 0, 0, 2);
        turns(y, 1, 0, 2);
        y.limit(0);
        y.mark();
        due(y.marked(0, 0), 0);
        due(y.turn(1, 0), 2);
        due(y.marked(0, 0), 2);
        due(y.marked(0, 2), 2);
        due(y.keptMany(0, 1, 0), 1);
        due(y.channel(1, 0, 0, 1), NONE);
        due(y.channel(1, 0, 1, 1), NONE);
        due(y.channel(1, 0, 0, 0), 1);
        // And by bound.
        LooseMarks z = job(2, 1, 1);
        z.bound(1);
        z.limit(0);
        feedKeys(z, 1, 3);
        turns(z, 0, 1, 2);
        turns(z, 1, 0, 1);
        z.mark();
        due(z.turn(1, 0), 2);
        due(z.turn(1, 0), 3);
        due(z.marked(0, 0), 2);
        due(z.task(1, 0, 1), 0);
        due(z.turn(1, 0), 1);
    }

    private static void markWaitsAndShuts() {
        begin(9);
        LooseMarks x = job(2, 1);
        x.bound(NONE);
        feedKeys(x, 0, 1, 3, 2);
        turns(x, 0, 1, 2);
        x.mark();
        turns(x, 0, 0, 2);
        due(x.turn(1, 0), 2);
        due(x.channel(0, 0, 0, 3), 1);
        due(x.channel(0, 1, 0, 3), 0);
        due(x.turn(1, 0), 1);
        due(x.turn(1, 0), 1);
        due(x.many(1, 0), 0);
        due(x.many(1, 1) + x.many(1, 3), 2);
        due(x.turn(1, 0), 2);
        due(x.marked(0, 0), 1);
        due(x.channel(0, 0, 0, 3), 0);
        due(x.turn(1, 0), 1);
        due(x.keptMany(0, 1, 0), 0);
        due(x.keptMany(0, 1, 1), 1);
        due(x.keptSum(0, 1, 3), 23);
    }

    private static void looseChannelEndsWaiting() {
        begin(9);
        // Stage 1 is forced by its bound, so its barriers are loose and stage 2 need not wait.
        LooseMarks x = job(2, 2, 1);
        x.bound(2);
        feedKeys(x, 1, 3);
        turns(x, 0, 1, 2);
        x.mark();
        due(x.turn(1, 1), 2);
        turns(x, 0, 0, 1);
        due(x.turn(1, 1), 3);
        due(x.channel(1, 1, 0, 1), 0);
        due(x.turn(2, 0), 2);
        due(x.task(2, 0, 0), 1);
        due(x.task(2, 0, 1), 0);
        due(x.task(2, 0, 2), 1);
        due(x.channel(1, 1, 0, 3), 0);
        due(x.turn(1, 0), 2);
        due(x.turn(1, 0), 2);
        due(x.task(1, 0, 0), 1);
        due(x.turn(2, 0), 2);
        due(x.about(5), 0);
        due(x.turn(1, 1), 1);
        due(x.turn(1, 1), 1);
        due(x.kept(0, 0, 1, 1), 2);
        due(x.turn(1, 1), 2);
        due(x.marked(0, 0), 1);
        due(x.marked(0, 2), 2);
        due(x.audit(), 0);
    }

    private static void giveUp() {
        begin(10);
        LooseMarks x = job(2, 1);
        due(x.giveUp(), STATE);
        x.bound(NONE);
        feedKeys(x, 0, 1);
        turns(x, 0, 0, 1);
        turns(x, 0, 1, 1);
        x.mark();
        due(x.turn(1, 0), 1);
        due(x.turn(1, 0), 2);
        due(x.task(1, 0, 1), 1);
        due(x.giveUp(), 0);
        due(x.giveUp(), STATE);
        due(x.about(5), NONE);
        due(x.marked(0, 0), 3);
        due(x.marked(0, 3), 2);
        due(x.task(1, 0, 1), 0);
        due(x.channel(0, 0, 0, 3), 0);
        due(x.channel(0, 1, 0, 1), NONE);
        due(x.turn(1, 0), 1);
        due(x.marked(0, 3), 2);
        x.bound(0);
        feedKeys(x, 2);
        turns(x, 0, 0, 1);
        due(x.mark(), 1);
        due(x.giveUp(), 1);
        due(x.marked(1, 1), 1);
        due(x.marked(1, 2), 2);
        due(x.kept(1, 0, 0, 0), 1);
        due(x.keptKey(1, 0, 0, 0, 0), 2);
        due(x.restore(1, 1, 1, 1, 1), STATE);
    }

    private static void restore() {
        begin(11);
        LooseMarks x = job(1, 2, 1);
        feedKeys(x, 0, 1, 2, 3, 4, 5);
        turns(x, 0, 0, 4);
        turns(x, 1, 0, 1);
        due(x.restore(0, 9, 9, 9, 9), UNKNOWN);
        x.mark();
        due(x.restore(0, 1, 1, 1, 0), STATE);
        due(x.restore(0, 0, 1, 1, 1), OUTSIDE);
        due(x.restore(0, 1, 5, 1, 1), OUTSIDE);
        due(x.restore(0, 1, 1, 0, 1), OUTSIDE);
        due(x.restore(1, 0, 1, 1, 1), UNKNOWN);
        due(x.restore(-1, 1, 1, 1, 1), UNKNOWN);
        x.run(20);
        due(x.marked(0, 0), 1);
        due(x.about(6), 0);
        due(x.mark(), 1);
        int turns = x.about(3);
        due(x.task(1, 0, 3), 0);
        due(x.restore(0, 2, 1, 4, 77), 4);
        due(x.marked(1, 0), 2);
        due(x.marked(1, 3), 0);
        due(x.about(5), NONE);
        due(x.about(3), turns);
        due(x.about(4), 2);
        due(x.about(1), 6);
        due(x.about(2), 4);
        due(x.about(6), 4);
        due(x.about(10), 2);
        due(x.about(11), 1);
        due(x.about(12), 4);
        due(x.channel(0, 1, 0, 1), NONE);
        due(x.many(1, 0), 1);
        due(x.many(2, 0), 0);
        due(x.key(1, 0, 0, 0), 0);
        due(x.key(0, 0, 0, 0), 2);
        due(x.marked(0, 10), 1);
        due(x.marked(0, 11), 2);
        x.run(20);
        for (int key = 0; key < 6; key++) {
            due(x.sum(2, key), 11L * key);
            due(x.many(2, key), 1);
        }
        due(x.audit(), 0);
        // Settings stay, whatever the mark began with.
        LooseMarks y = job(1, 1);
        y.mark();
        y.run(1);
        y.bound(9);
        y.capacity(3);
        y.limit(8);
        due(y.restore(0, 1, 1, 0, 0), 0);
        due(y.about(7), 3);
        due(y.about(8), 9);
        due(y.about(9), 8);
        // All four stages are looked at where there are four.
        LooseMarks z = job(1, 1, 1, 1);
        z.mark();
        z.run(1);
        due(z.restore(0, 1, 1, 1, 0), OUTSIDE);
        due(z.restore(0, 1, 1, 1, 4), 0);
        due(z.about(13), 4);
    }

    private static void restoreOrder() {
        begin(11);
        // The rows of all channels of a gap come into one, channel by channel, and over capacity.
        LooseMarks x = job(3, 3);
        x.capacity(2);
        feedKeys(x, 2, 1, 0, 5, 4, 3);
        for (int task = 2; task >= 0; task--) {
            turns(x, 0, task, 2);
        }
        x.mark();
        x.run(5);
        due(x.marked(0, 0), 1);
        due(x.restore(0, 1, 1, 1, 1), 6);
        int[] keys = {0, 3, 1, 4, 2, 5};
        long[] values = {20, 53, 11, 44, 2, 35};
        for (int i = 0; i < 6; i++) {
            due(x.key(0, 0, 0, i), keys[i]);
            due(x.value(0, 0, 0, i), values[i]);
        }
        due(x.channel(0, 0, 0, 0), 6);
        due(x.key(0, 0, 0, 6), NONE);
        feedKeys(x, 0);
        turns(x, 1, 0, 4);
        due(x.turn(0, 0), 0);
        turns(x, 1, 0, 1);
        due(x.turn(0, 0), 1);
        // Tasks take from channel 0 next.
        LooseMarks y = job(2, 1);
        feedKeys(y, 0, 0, 1);
        turns(y, 0, 0, 1);
        due(y.turn(1, 0), 1);
        due(y.task(1, 0, 3), 1);
        y.mark();
        y.run(2);
        due(y.restore(0, 3, 1, 1, 1), 0);
        due(y.task(1, 0, 3), 0);
    }

    private static void restoreGoesOn() {
        begin(11);
        for (int bound = -1; bound < 4; bound++) {
            for (int stop = 1; stop < 12; stop++) {
                LooseMarks x = job(3, 2, 4);
                x.bound(bound);
                for (int i = 0; i < 40; i++) {
                    x.feed(i * 7 % 16, 1L << i);
                }
                x.run(stop);
                x.mark();
                x.run(50);
                due(x.marked(0, 0), 1);
                x.restore(0, 1 + stop % 4, 1 + stop % 3, 1 + stop % 2, 1);
                due(x.audit(), 0);
                x.run(50);
                long all = 0;
                for (int key = 0; key < 16; key++) {
                    all += x.sum(2, key);
                }
                due(all, (1L << 40) - 1);
                due(x.about(2), 40);
                due(x.audit(), 0);
            }
        }
    }

    private static void about() {
        begin(12);
        LooseMarks x = job(2, 3);
        feedKeys(x, 0, 1, 2);
        due(x.about(1), 3);
        x.turn(0, 0);
        x.turn(0, 1);
        due(x.about(2), 2);
        due(x.about(3), 2);
        due(x.about(6), 2);
        due(x.about(4), 0);
        due(x.about(5), NONE);
        x.mark();
        due(x.about(4), 1);
        due(x.about(5), 0);
        due(x.about(10), 2);
        due(x.about(11), 3);
        due(x.about(12), OUTSIDE);
        due(x.about(-1), OUTSIDE);
        due(x.about(Integer.MAX_VALUE), OUTSIDE);
        due(x.about(Integer.MIN_VALUE), OUTSIDE);
        x.turn(1, 0);
        due(x.about(6), 2);
    }

    private static void manyAndSum() {
        begin(13);
        LooseMarks x = new LooseMarks(2);
        x.feed(15, Long.MAX_VALUE);
        x.feed(15, 1);
        x.feed(0, -4);
        x.run(1);
        due(x.many(0, 15), 1);
        due(x.many(1, 15), 1);
        x.run(2);
        due(x.many(1, 15), 2);
        due(x.many(1, 0), 1);
        due(x.many(1, 1), 0);
        due(x.many(2, 0), UNKNOWN);
        due(x.many(-1, 99), UNKNOWN);
        due(x.many(1, 16), OUTSIDE);
        due(x.many(1, -1), OUTSIDE);
        begin(14);
        due(x.sum(0, 15), Long.MIN_VALUE);
        due(x.sum(1, 15), Long.MIN_VALUE);
        due(x.sum(1, 0), -4);
        due(x.sum(2, 0), 0);
        due(x.sum(-1, 0), 0);
        due(x.sum(0, 16), 0);
        due(x.sum(0, -1), 0);
        due(x.audit(), 0);
    }

    private static void task() {
        begin(15);
        LooseMarks x = job(2, 2);
        x.bound(NONE);
        due(x.task(0, 0, 3), NONE);
        due(x.task(1, 0, 3), 0);
        due(x.task(2, 0, 9), UNKNOWN);
        due(x.task(-1, 0, 0), UNKNOWN);
        due(x.task(1, 2, 0), UNKNOWN);
        due(x.task(1, -1, 0), UNKNOWN);
        due(x.task(1, 1, 4), OUTSIDE);
        due(x.task(1, 1, -1), OUTSIDE);
        x.mark();
        due(x.task(0, 1, 0), 1);
        due(x.task(0, 1, 1), 0);
        due(x.task(0, 1, 2), 0);
        due(x.task(1, 1, 0), 0);
        x.turn(1, 1);
        due(x.task(1, 1, 0), 0);
        due(x.task(1, 1, 1), 1);
        due(x.task(1, 1, 2), 1);
        x.turn(1, 1);
        due(x.task(1, 1, 0), 1);
        due(x.task(1, 1, 1), 0);
        due(x.task(1, 1, 2), 2);
        x.run(2);
        due(x.task(1, 1, 0), 0);
        due(x.task(1, 1, 2), 0);
        due(x.task(0, 0, 0), 0);
    }

    private static void channel() {
        begin(16);
        LooseMarks x = job(2, 1);
        x.bound(NONE);
        feedKeys(x, 0, 2, 4);
        turns(x, 0, 0, 2);
        due(x.channel(0, 0, 0, 0), 2);
        due(x.channel(0, 0, 0, 1), NONE);
        due(x.channel(0, 0, 0, 2), 0);
        due(x.channel(0, 0, 0, 3), 0);
        due(x.channel(0, 0, 0, 4), OUTSIDE);
        due(x.channel(0, 0, 0, -1), OUTSIDE);
        due(x.channel(1, 0, 0, 9), UNKNOWN);
        due(x.channel(-1, 0, 0, 0), UNKNOWN);
        due(x.channel(0, 2, 0, 0), UNKNOWN);
        due(x.channel(0, -1, 0, 0), UNKNOWN);
        due(x.channel(0, 0, 1, 0), UNKNOWN);
        due(x.channel(0, 0, -1, 0), UNKNOWN);
        x.mark();
        due(x.channel(0, 0, 0, 1), 2);
        turns(x, 0, 0, 1);
        due(x.channel(0, 0, 0, 1), 2);
        due(x.turn(1, 0), 2);
        due(x.channel(0, 1, 0, 1), NONE);
        due(x.channel(0, 1, 0, 2), 1);
        due(x.channel(0, 1, 0, 3), 1);
        due(x.channel(0, 0, 0, 2), 0);
        due(x.channel(0, 0, 0, 3), 0);
        due(x.turn(1, 0), 1);
        due(x.channel(0, 0, 0, 1), 1);
        due(x.channel(0, 0, 0, 0), 2);
        x.giveUp();
        due(x.channel(0, 1, 0, 2), 0);
        due(x.channel(0, 1, 0, 3), 0);
        x.bound(1);
        x.mark();
        x.turn(1, 0);
        x.turn(1, 0);
        // It took part: what came is no longer shut.
        due(x.channel(0, 1, 0, 2), 1);
        due(x.channel(0, 1, 0, 3), 0);
    }

    private static void keyAndValue() {
        begin(17);
        LooseMarks x = job(2, 2);
        x.feed(1, 11);
        x.feed(3, -5);
        turns(x, 0, 1, 2);
        due(x.key(0, 1, 1, 0), 1);
        due(x.key(0, 1, 1, 1), 3);
        due(x.key(0, 1, 1, 2), NONE);
        due(x.key(0, 1, 1, -1), NONE);
        due(x.key(0, 0, 1, 0), NONE);
        due(x.key(1, 0, 0, 0), UNKNOWN);
        due(x.key(0, 2, 0, 0), UNKNOWN);
        due(x.key(0, 0, 2, -1), UNKNOWN);
        begin(18);
        due(x.value(0, 1, 1, 0), 11);
        due(x.value(0, 1, 1, 1), -5);
        due(x.value(0, 1, 1, 2), 0);
        due(x.value(0, 1, 1, -1), 0);
        due(x.value(1, 0, 0, 0), 0);
        due(x.value(0, 2, 0, 0), 0);
        x.mark();
        due(x.key(0, 1, 1, 0), 1);
        due(x.value(0, 1, 1, 1), -5);
        x.run(4);
        due(x.key(0, 1, 1, 0), NONE);
        due(x.value(0, 1, 1, 0), 0);
    }

    private static void marked() {
        begin(19);
        LooseMarks x = job(2, 3);
        feedKeys(x, 0, 1);
        x.turn(0, 0);
        due(x.marked(0, 0), UNKNOWN);
        x.mark();
        due(x.marked(0, 0), 0);
        due(x.marked(0, 1), 1);
        due(x.marked(0, 2), 6);
        due(x.marked(0, 3), 0);
        x.turn(0, 0);
        due(x.marked(0, 3), 1);
        due(x.marked(0, 10), 2);
        due(x.marked(0, 11), 3);
        due(x.marked(0, 12), OUTSIDE);
        due(x.marked(0, 4), OUTSIDE);
        due(x.marked(0, 9), OUTSIDE);
        due(x.marked(0, -1), OUTSIDE);
        due(x.marked(1, -1), UNKNOWN);
        due(x.marked(-1, 0), UNKNOWN);
        x.run(1);
        due(x.marked(0, 0), 0);
        due(x.marked(0, 3), 6);
        x.run(1);
        // The last barrier came in the last turn of the round.
        due(x.marked(0, 0), 1);
        due(x.marked(0, 3), 11);
        x.run(1);
        due(x.marked(0, 3), 11);
        due(x.restore(0, 4, 4, 4, 4), 1);
        due(x.marked(0, 10), 2);
        due(x.marked(0, 11), 3);
        x.mark();
        due(x.marked(1, 10), 4);
    }

    private static void keptManyAndSum() {
        begin(20);
        LooseMarks x = job(1, 2);
        x.bound(NONE);
        x.feed(0, 5);
        x.feed(1, 6);
        x.feed(0, 7);
        turns(x, 0, 0, 2);
        turns(x, 1, 0, 1);
        due(x.keptMany(0, 0, 99), UNKNOWN);
        x.mark();
        turns(x, 0, 0, 1);
        due(x.keptMany(0, 0, 0), 1);
        due(x.keptMany(0, 0, 1), 1);
        due(x.keptMany(0, 1, 0), 0);
        x.turn(1, 0);
        due(x.keptMany(0, 1, 0), 1);
        due(x.keptMany(0, 1, 1), 0);
        x.turn(1, 1);
        x.turn(1, 1);
        due(x.marked(0, 0), 1);
        due(x.keptMany(0, 1, 1), 1);
        due(x.keptMany(0, 2, 0), UNKNOWN);
        due(x.keptMany(0, -1, 0), UNKNOWN);
        due(x.keptMany(1, 0, 0), UNKNOWN);
        due(x.keptMany(-1, 0, 0), UNKNOWN);
        due(x.keptMany(0, 0, 16), OUTSIDE);
        due(x.keptMany(0, 0, -1), OUTSIDE);
        begin(21);
        x.run(3);
        due(x.sum(0, 0), 12);
        due(x.keptSum(0, 0, 0), 5);
        due(x.keptSum(0, 0, 1), 6);
        due(x.keptSum(0, 1, 0), 5);
        due(x.keptSum(0, 1, 1), 6);
        due(x.keptSum(0, 2, 0), 0);
        due(x.keptSum(0, -1, 0), 0);
        due(x.keptSum(1, 0, 0), 0);
        due(x.keptSum(-1, 0, 0), 0);
        due(x.keptSum(0, 0, 16), 0);
        due(x.keptSum(0, 0, -1), 0);
    }

    private static void keptRows() {
        begin(22);
        LooseMarks x = job(2, 2);
        x.feed(2, 8);
        x.feed(0, 9);
        turns(x, 0, 0, 2);
        due(x.kept(0, 0, 0, 0), UNKNOWN);
        x.mark();
        due(x.kept(0, 0, 0, 0), 2);
        due(x.kept(0, 0, 1, 1), 0);
        due(x.kept(0, 1, 0, 0), UNKNOWN);
        due(x.kept(0, -1, 0, 0), UNKNOWN);
        due(x.kept(0, 0, 2, 0), UNKNOWN);
        due(x.kept(0, 0, -1, 0), UNKNOWN);
        due(x.kept(0, 0, 0, 2), UNKNOWN);
        due(x.kept(0, 0, 0, -1), UNKNOWN);
        due(x.kept(-1, 0, 0, 0), UNKNOWN);
        due(x.kept(1, 0, 0, 0), UNKNOWN);
        begin(23);
        due(x.keptKey(0, 0, 0, 0, 0), 2);
        due(x.keptKey(0, 0, 0, 0, 1), 0);
        due(x.keptKey(0, 0, 0, 0, 2), NONE);
        due(x.keptKey(0, 0, 0, 0, -1), NONE);
        due(x.keptKey(0, 0, 1, 0, 0), NONE);
        due(x.keptKey(0, 1, 0, 0, 0), UNKNOWN);
        due(x.keptKey(0, 0, 2, 0, -1), UNKNOWN);
        due(x.keptKey(1, 0, 0, 0, 0), UNKNOWN);
        begin(24);
        due(x.keptValue(0, 0, 0, 0, 0), 8);
        due(x.keptValue(0, 0, 0, 0, 1), 9);
        due(x.keptValue(0, 0, 0, 0, 2), 0);
        due(x.keptValue(0, 0, 0, 0, -1), 0);
        due(x.keptValue(0, 1, 0, 0, 0), 0);
        due(x.keptValue(1, 0, 0, 0, 0), 0);
        // The channels that there were are asked for, not those that there are.
        x.run(3);
        due(x.restore(0, 4, 1, 1, 1), 2);
        begin(22);
        due(x.kept(0, 0, 0, 1), 0);
        due(x.kept(0, 0, 3, 0), UNKNOWN);
        due(x.channel(0, 2, 0, 0), 1);
        due(x.kept(0, 0, 0, 0), 2);
        begin(23);
        due(x.keptKey(0, 0, 0, 0, 0), 2);
        begin(24);
        due(x.keptValue(0, 0, 0, 0, 0), 8);
        // Rows that a task takes once it took part by BOUND are kept in the order of its taking.
        LooseMarks y = job(2, 2, 1);
        y.bound(3);
        feedKeys(y, 1, 3, 5, 7);
        turns(y, 0, 1, 2);
        y.mark();
        turns(y, 1, 0, 2);
        due(y.task(1, 0, 0), 1);
        due(y.turn(1, 1), 2);
        due(y.turn(1, 1), 1);
        due(y.turn(1, 1), 1);
        due(y.turn(1, 1), 2);
        due(y.marked(0, 1), 0);
        due(y.channel(1, 1, 0, 1), 2);
        due(y.turn(2, 0), 2);
        turns(y, 0, 0, 2);
        due(y.turn(2, 0), 3);
        due(y.turn(2, 0), 1);
        begin(22);
        due(y.kept(0, 1, 1, 0), 1);
        due(y.turn(2, 0), 1);
        due(y.kept(0, 1, 1, 0), 2);
        due(y.turn(2, 0), 2);
        due(y.marked(0, 0), 1);
        due(y.marked(0, 2), 1);
        begin(23);
        due(y.keptKey(0, 1, 1, 0, 0), 1);
        due(y.keptKey(0, 1, 1, 0, 1), 3);
    }

    private static void audit() {
        begin(25);
        LooseMarks x = job(3, 4, 2, 3);
        for (int i = 0; i < 200; i++) {
            x.feed(i * 5 % 16, i * 0x9E3779B97F4A7C15L);
        }
        int restored = 0;
        for (int i = 0; i < 120; i++) {
            x.run(1 + i % 2);
            x.bound(i % 5 - 1);
            x.mark();
            due(x.audit(), 0);
            if (i % 9 == 8) {
                int mark = i % 8;
                restored += x.restore(mark, 1 + i % 4, 1 + i % 3, 1 + i / 4 % 4, 1 + i / 3 % 4) >= 0 ? 1 : 0;
                due(x.audit(), 0);
            }
        }
        due(restored > 3 ? 1 : 0, 1);
    }
}
