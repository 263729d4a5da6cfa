/** What promises 1 to 25 say of boundaries, sentence by sentence: one test for each. */
public final class PromiseBoundsTest extends Sentences {
    private static final int LOW = Integer.MIN_VALUE, HIGH = Integer.MAX_VALUE;

    public static void main(String[] args) {
        newObject();
        newObjectIsEmpty();
        wide();
        wideAfterATurnOrMark();
        capacity();
        bound();
        boundUnderWay();
        limit();
        feed();
        turnAnswers();
        turnUnknown();
        run();
        runRounds();
        runStageByStage();
        mark();
        giveUp();
        restore();
        about();
        many();
        sum();
        task();
        taskWithoutAMark();
        channel();
        barrierPlaces();
        channelWithoutAMark();
        key();
        value();
        marked();
        markedAsTheyWere();
        markedTurns();
        markedWidths();
        keptMany();
        keptSum();
        keptRows();
        keptKey();
        keptValue();
        audit();
        end();
    }

    private static void newObject() {
        says("1: S (2 .. 4, else the nearer one)");
        int[] told = {LOW, LOW + 1, -4, -1, 0, 1, 2, 3, 4, 5, 6, HIGH - 1, HIGH};
        for (int stages : told) {
            LooseMarks x = new LooseMarks(stages);
            int s = stages < 2 ? 2 : stages > 4 ? 4 : stages;
            due(x.about(0), s);
            due(x.turn(s - 1, 0), 0);
            due(x.turn(s, 0), UNKNOWN);
            due(x.channel(s - 2, 0, 0, 0), 0);
            due(x.channel(s - 1, 0, 0, 0), UNKNOWN);
        }
    }

    private static void newObjectIsEmpty() {
        says("1: No INPUT, no marks; BOUND is 0");
        for (int stages = 2; stages <= 4; stages++) {
            LooseMarks x = new LooseMarks(stages);
            int[] first = {stages, 0, 0, 0, 0, NONE, 0, 5, 0, 200};
            for (int what = 0; what < first.length; what++) {
                due(x.about(what), first[what]);
            }
            due(x.marked(0, 0), UNKNOWN);
            due(x.giveUp(), STATE);
            due(x.restore(0, 1, 1, 1, 1), UNKNOWN);
            due(x.run(50), 0);
            due(x.audit(), 0);
            due(x.mark(), 0);
            due(x.channel(0, 0, 0, 1), 0);
            due(x.marked(0, 2), 1);
        }
    }

    private static void wide() {
        says("2: P of a stage: what it was. UNKNOWN, OUTSIDE (1 .. 4)");
        for (int stages = 2; stages <= 4; stages++) {
            LooseMarks x = new LooseMarks(stages);
            int[] none = {LOW, -1, stages, stages + 1, HIGH};
            for (int stage : none) {
                due(x.wide(stage, 1), UNKNOWN);
            }
            for (int stage = 0; stage < stages; stage++) {
                due(x.wide(stage, 4), 1);
                due(x.wide(stage, 0), OUTSIDE);
                due(x.wide(stage, 5), OUTSIDE);
                due(x.wide(stage, LOW), OUTSIDE);
                due(x.wide(stage, HIGH), OUTSIDE);
                due(x.wide(stage, 1), 4);
                due(x.wide(stage, 1), 1);
                due(x.wide(stage, 3), 1);
                due(x.about(10 + stage), 3);
            }
        }
    }

    private static void wideAfterATurnOrMark() {
        says("2: STATE (a turn, a mark was made)");
        // Rows, settings and refusals are no turn and no mark.
        LooseMarks x = new LooseMarks(2);
        x.feed(0, 1);
        x.capacity(1);
        x.bound(1);
        x.limit(1);
        due(x.turn(0, 1), UNKNOWN);
        due(x.run(0), OUTSIDE);
        due(x.giveUp(), STATE);
        due(x.restore(0, 1, 1, 1, 1), UNKNOWN);
        due(x.wide(0, 2), 1);
        due(x.wide(1, 2), 1);
        // A turn that did nothing is one.
        due(x.turn(1, 1), 0);
        due(x.wide(0, 2), STATE);
        due(x.wide(1, 1), STATE);
        LooseMarks y = new LooseMarks(2);
        due(y.run(1), 0);
        due(y.wide(0, 2), STATE);
        // A mark that was given up, too.
        LooseMarks z = new LooseMarks(2);
        z.mark();
        due(z.wide(0, 2), STATE);
        z.giveUp();
        due(z.wide(0, 2), STATE);
        due(z.about(3), 0);
        due(z.about(10), 1);
    }

    private static void capacity() {
        says("3: CAPACITY: what it was. OUTSIDE");
        LooseMarks x = new LooseMarks(2);
        due(x.capacity(1), 5);
        due(x.capacity(20), 1);
        int[] outside = {LOW, -1, 0, 21, HIGH};
        for (int rows : outside) {
            due(x.capacity(rows), OUTSIDE);
            due(x.about(7), 20);
        }
        due(x.capacity(20), 20);
        // Whatever goes on.
        x.run(1);
        x.mark();
        due(x.capacity(7), 20);
        due(x.about(7), 7);
    }

    private static void bound() {
        says("4: BOUND (NONE, 0 .. 1000): what it was. OUTSIDE");
        LooseMarks x = new LooseMarks(2);
        due(x.bound(NONE), 0);
        due(x.bound(1000), NONE);
        due(x.bound(0), 1000);
        due(x.bound(1), 0);
        int[] outside = {LOW, -2, 1001, HIGH, UNKNOWN};
        for (int turns : outside) {
            due(x.bound(turns), OUTSIDE);
            due(x.about(8), 1);
        }
    }

    private static void boundUnderWay() {
        says("4: STATE (a mark is under way)");
        LooseMarks x = new LooseMarks(2);
        x.feed(0, 1);
        x.turn(0, 0);
        x.mark();
        due(x.bound(3), STATE);
        due(x.bound(0), STATE);
        due(x.about(8), 0);
        due(x.turn(1, 0), 2);
        due(x.bound(3), 0);
        x.mark();
        due(x.bound(4), STATE);
        x.giveUp();
        due(x.bound(0), 3);
        x.limit(0);
        x.mark();
        due(x.marked(2, 0), FAILED);
        due(x.bound(5), 0);
        x.mark();
        due(x.bound(6), STATE);
        due(x.restore(0, 1, 1, 1, 1), 1);
        due(x.bound(6), 5);
    }

    private static void limit() {
        says("5: LIMIT: what it was. OUTSIDE");
        LooseMarks x = new LooseMarks(2);
        due(x.limit(0), 200);
        due(x.limit(200), 0);
        int[] outside = {LOW, -1, 201, HIGH};
        for (int rows : outside) {
            due(x.limit(rows), OUTSIDE);
            due(x.about(9), 200);
        }
        x.mark();
        due(x.limit(1), 200);
        due(x.about(9), 1);
    }

    private static void feed() {
        says("6: An INPUT row: its number. OUTSIDE (key), ROOM");
        LooseMarks x = new LooseMarks(2);
        int[] outside = {LOW, -1, 16, HIGH};
        for (int key : outside) {
            due(x.feed(key, 1), OUTSIDE);
        }
        due(x.about(1), 0);
        due(x.feed(0, Long.MIN_VALUE), 0);
        due(x.feed(15, Long.MAX_VALUE), 1);
        for (int i = 2; i < 200; i++) {
            due(x.feed(i % 16, 0), i);
        }
        due(x.feed(0, 0), ROOM);
        due(x.feed(15, 0), ROOM);
        due(x.feed(16, 0), OUTSIDE);
        due(x.about(1), 200);
    }

    private static void turnAnswers() {
        says("7: 0 nothing could be, 1 a row was taken, 2 a BARRIER came, 3 it took part by BOUND");
        LooseMarks x = job(2, 1);
        x.bound(1);
        due(x.turn(0, 1), 0);
        due(x.turn(1, 0), 0);
        feed(x, 1);
        due(x.turn(0, 1), 1);
        x.mark();
        due(x.turn(1, 0), 2);
        due(x.turn(1, 0), 3);
        due(x.turn(1, 0), 1);
        due(x.turn(1, 0), 2);
        due(x.turn(1, 0), 0);
    }

    private static void turnUnknown() {
        says("7: UNKNOWN");
        LooseMarks x = job(1, 2, 3);
        int[][] none = {{-1, 0}, {3, 0}, {0, 1}, {0, -1}, {1, 2}, {1, -1}, {2, 3}, {2, -1},
            {LOW, 0}, {HIGH, 0}, {1, LOW}, {1, HIGH}};
        for (int[] at : none) {
            due(x.turn(at[0], at[1]), UNKNOWN);
        }
        due(x.about(3), 0);
        due(x.turn(2, 2), 0);
        due(x.about(3), 1);
        // As many as there are now.
        x.mark();
        x.run(4);
        due(x.restore(0, 4, 1, 1, 1), 0);
        due(x.turn(0, 3), 0);
        due(x.turn(1, 1), UNKNOWN);
        due(x.turn(2, 1), UNKNOWN);
    }

    private static void run() {
        says("8: OUTSIDE (1 .. 50)");
        LooseMarks x = job(3, 2);
        int[] outside = {LOW, -1, 0, 51, HIGH};
        for (int rounds : outside) {
            due(x.run(rounds), OUTSIDE);
        }
        due(x.about(3), 0);
        due(x.run(1), 0);
        due(x.about(3), 5);
        due(x.run(50), 0);
        due(x.about(3), 5 * 51);
    }

    private static void runRounds() {
        says("8: how many of these did something");
        LooseMarks x = job(2, 1);
        x.bound(1);
        feed(x, 1, 3);
        turns(x, 0, 1, 1);
        x.mark();
        // A row and a barrier; it takes part by BOUND; a row; the last barrier; a row; nothing.
        due(x.run(1), 2);
        due(x.run(1), 1);
        due(x.run(1), 1);
        due(x.run(1), 1);
        due(x.marked(0, 0), WHOLE);
        due(x.run(1), 1);
        due(x.run(1), 0);
        due(x.about(3), 1 + 6 * 3);
    }

    private static void runStageByStage() {
        says("8: each a TURN of each task, stage by stage, in order");
        LooseMarks x = job(2, 2, 2, 2);
        feed(x, 0, 1);
        due(x.run(1), 8);
        due(x.many(3, 0), 1);
        due(x.many(3, 1), 1);
        // Of a stage, task 0 goes first: its row is the one that can still be KEPT.
        LooseMarks y = job(2, 2);
        y.bound(1);
        feed(y, 1, 0);
        turns(y, 0, 0, 1);
        turns(y, 0, 1, 1);
        y.limit(1);
        y.mark();
        due(y.run(2), 4);
        due(y.task(1, 0, 0) + y.task(1, 1, 0), 2);
        due(y.run(1), 2);
        due(y.marked(0, 0), FAILED);
        due(y.marked(0, 3), 12);
        kept(y, 0, 0, 0, 0, 0);
        kept(y, 0, 0, 1, 1);
    }

    private static void mark() {
        says("9: A mark begins: its number. STATE (one is under way), ROOM");
        LooseMarks x = job(1, 1);
        for (int number = 0; number < 8; number++) {
            due(x.mark(), number);
            due(x.mark(), STATE);
            due(x.about(4), number + 1);
            due(x.about(5), number);
            due(x.turn(1, 0), 2);
        }
        due(x.mark(), ROOM);
        due(x.about(4), 8);
        due(x.about(5), NONE);
    }

    private static void giveUp() {
        says("10: The mark that is under way is given up: its number. STATE");
        LooseMarks x = job(1, 1);
        due(x.giveUp(), STATE);
        for (int number = 0; number < 8; number++) {
            x.mark();
            due(x.giveUp(), number);
            due(x.marked(number, 0), GIVEN_UP);
            due(x.giveUp(), STATE);
        }
        LooseMarks y = job(1, 1);
        y.mark();
        y.turn(1, 0);
        due(y.giveUp(), STATE);
        due(y.marked(0, 0), WHOLE);
        y.feed(0, 1);
        y.turn(0, 0);
        y.limit(0);
        y.mark();
        due(y.giveUp(), STATE);
        due(y.marked(1, 0), FAILED);
    }

    private static void restore() {
        says("11: how many rows the channels hold. UNKNOWN, OUTSIDE (1 .. 4), STATE (it is not WHOLE)");
        LooseMarks x = job(1, 1);
        feed(x, 0, 1, 2);
        turns(x, 0, 0, 2);
        due(x.restore(0, 1, 1, 1, 1), UNKNOWN);
        x.mark();
        due(x.restore(0, 1, 1, 1, 1), STATE);
        x.turn(1, 0);
        int[] none = {LOW, -1, 1, 8, HIGH};
        for (int mark : none) {
            due(x.restore(mark, 1, 1, 1, 1), UNKNOWN);
        }
        int[] outside = {LOW, 0, 5, HIGH};
        for (int p : outside) {
            due(x.restore(0, p, 1, 1, 1), OUTSIDE);
            due(x.restore(0, 1, p, 1, 1), OUTSIDE);
        }
        due(x.restore(0, 4, 4, 0, 0), 2);
        due(x.about(6), 2);
        due(x.restore(0, 1, 1, LOW, HIGH), 2);
        due(x.about(10), 1);
    }

    private static void about() {
        says("12: What = 0 .. 9, 10 + s P of stage s. OUTSIDE");
        for (int stages = 2; stages <= 4; stages++) {
            LooseMarks x = new LooseMarks(stages);
            for (int what = 0; what < 10 + stages; what++) {
                due(x.about(what) >= NONE ? 1 : 0, 1);
            }
            int[] outside = {LOW, LOW + 9, -1, -10, 10 + stages, 11 + stages, HIGH};
            for (int what : outside) {
                due(x.about(what), OUTSIDE);
            }
        }
        LooseMarks x = job(2, 3, 4);
        feed(x, 0, 1, 2);
        x.turn(0, 0);
        x.mark();
        int[] told = {3, 3, 1, 1, 1, 0, 1, 5, 0, 200, 2, 3, 4, OUTSIDE};
        for (int what = 0; what < told.length; what++) {
            due(x.about(what), told[what]);
        }
    }

    private static void many() {
        says("13: UNKNOWN (stage), OUTSIDE (key)");
        for (int stages = 2; stages <= 4; stages++) {
            LooseMarks x = new LooseMarks(stages);
            feed(x, 0, 15);
            x.run(2);
            for (int stage = 0; stage < stages; stage++) {
                due(x.many(stage, 0), 1);
                due(x.many(stage, 1), 0);
                due(x.many(stage, 15), 1);
                due(x.many(stage, -1), OUTSIDE);
                due(x.many(stage, 16), OUTSIDE);
                due(x.many(stage, LOW), OUTSIDE);
                due(x.many(stage, HIGH), OUTSIDE);
            }
            int[] none = {LOW, -1, stages, HIGH};
            for (int stage : none) {
                due(x.many(stage, 0), UNKNOWN);
                due(x.many(stage, 16), UNKNOWN);
            }
        }
    }

    private static void sum() {
        says("14: SUM of a KEY in a stage; 0 if there is no such stage or KEY");
        for (int stages = 2; stages <= 4; stages++) {
            LooseMarks x = new LooseMarks(stages);
            for (int key = 0; key < 16; key++) {
                x.feed(key, -7 - key);
            }
            x.run(30);
            for (int stage = 0; stage < stages; stage++) {
                due(x.sum(stage, 0), -7);
                due(x.sum(stage, 15), -22);
                due(x.sum(stage, -1), 0);
                due(x.sum(stage, 16), 0);
                due(x.sum(stage, LOW), 0);
                due(x.sum(stage, HIGH), 0);
            }
            int[] none = {LOW, -1, stages, HIGH};
            for (int stage : none) {
                due(x.sum(stage, 0), 0);
                due(x.sum(stage, 15), 0);
                due(x.sum(stage, 16), 0);
            }
        }
    }

    private static void task() {
        says("15: from which channel it looks for a row first (NONE in stage 0). UNKNOWN, OUTSIDE");
        LooseMarks x = job(2, 3);
        due(x.task(0, 0, 3), NONE);
        due(x.task(0, 1, 3), NONE);
        due(x.task(1, 0, 3), 0);
        due(x.task(1, 2, 3), 0);
        int[] outside = {LOW, -1, 4, HIGH};
        for (int what : outside) {
            due(x.task(0, 0, what), OUTSIDE);
            due(x.task(1, 2, what), OUTSIDE);
            due(x.task(0, 2, what), UNKNOWN);
        }
        int[][] none = {{-1, 0}, {2, 0}, {0, -1}, {0, 2}, {1, -1}, {1, 3}, {LOW, LOW}, {HIGH, HIGH}};
        for (int[] at : none) {
            for (int what = 0; what < 4; what++) {
                due(x.task(at[0], at[1], what), UNKNOWN);
            }
        }
        x.mark();
        due(x.task(0, 1, 0), 1);
        due(x.task(0, 1, 1), 0);
        due(x.task(0, 1, 2), 0);
        due(x.task(0, 1, 3), NONE);
    }

    private static void taskWithoutAMark() {
        says("15: (0 to 2: 0 without such a mark.)");
        LooseMarks x = job(2, 2);
        noTrace(x);
        x.mark();
        due(x.task(0, 0, 0), 1);
        due(x.task(0, 1, 0), 1);
        due(x.turn(1, 0), 2);
        due(x.task(1, 0, 0), 1);
        due(x.task(1, 0, 2), 1);
        due(x.turn(1, 0), 2);
        due(x.task(1, 0, 2), 2);
        x.run(2);
        noTrace(x);
        x.bound(NONE);
        x.mark();
        due(x.turn(1, 0), 2);
        due(x.task(1, 0, 1), 1);
        due(x.task(1, 0, 2), 1);
        x.giveUp();
        noTrace(x);
    }

    private static void channel() {
        says("16: UNKNOWN, OUTSIDE");
        LooseMarks x = job(2, 1, 3);
        int[] outside = {LOW, -1, 4, HIGH};
        for (int what : outside) {
            due(x.channel(0, 1, 0, what), OUTSIDE);
            due(x.channel(1, 0, 2, what), OUTSIDE);
            due(x.channel(2, 0, 0, what), UNKNOWN);
            due(x.channel(0, 2, 0, what), UNKNOWN);
        }
        int[][] none = {{-1, 0, 0}, {2, 0, 0}, {0, 2, 0}, {0, -1, 0}, {0, 0, 1}, {0, 0, -1}, {1, 1, 0}, {1, 0, 3},
            {1, 0, -1}, {LOW, 0, 0}, {HIGH, 0, 0}, {0, LOW, 0}, {0, HIGH, 0}, {0, 0, LOW}, {0, 0, HIGH}};
        for (int[] at : none) {
            for (int what = 0; what < 4; what++) {
                due(x.channel(at[0], at[1], at[2], what), UNKNOWN);
            }
        }
    }

    private static void barrierPlaces() {
        says("16: before which of them (0 the first; as many as there are: behind all) the BARRIER stands (NONE)");
        LooseMarks x = job(1, 2);
        x.bound(NONE);
        feed(x, 0, 0, 0, 0);
        turns(x, 0, 0, 3);
        due(x.channel(0, 0, 0, 1), NONE);
        x.mark();
        due(x.channel(0, 0, 0, 1), 3);
        due(x.channel(0, 0, 0, 0), 3);
        // An empty one: before the first and behind all at once.
        due(x.channel(0, 0, 1, 1), 0);
        due(x.channel(0, 0, 1, 0), 0);
        turns(x, 0, 0, 1);
        for (int place = 3; place > 0; place--) {
            due(x.channel(0, 0, 0, 1), place);
            due(x.channel(0, 0, 0, 0), place + 1);
            x.turn(1, 0);
        }
        due(x.channel(0, 0, 0, 1), 0);
        due(x.channel(0, 0, 0, 0), 1);
        due(x.turn(1, 0), 2);
        due(x.channel(0, 0, 0, 1), NONE);
        due(x.channel(0, 0, 0, 0), 1);
        // Rows that go from a channel without one leave it so, with a mark under way and without.
        due(x.about(5), 0);
        due(x.turn(1, 0), 1);
        due(x.channel(0, 0, 0, 1), NONE);
        x.giveUp();
        feed(x, 0, 0);
        turns(x, 0, 0, 2);
        for (int i = 0; i < 2; i++) {
            due(x.turn(1, 0), 1);
            due(x.channel(0, 0, 0, 1), NONE);
        }
    }

    private static void channelWithoutAMark() {
        says("16: (2, 3: 0 without a mark under way.)");
        LooseMarks x = job(2, 1);
        x.bound(NONE);
        for (int what = 2; what < 4; what++) {
            due(x.channel(0, 0, 0, what), 0);
        }
        x.mark();
        for (int what = 2; what < 4; what++) {
            due(x.channel(0, 0, 0, what), 0);
        }
        x.turn(1, 0);
        for (int what = 2; what < 4; what++) {
            due(x.channel(0, 0, 0, what), 1);
            due(x.channel(0, 1, 0, what), 0);
        }
        x.giveUp();
        noTrace(x);
        x.mark();
        turns(x, 1, 0, 2);
        due(x.marked(1, 0), WHOLE);
        noTrace(x);
    }

    private static void key() {
        says("17: The KEY of row i (0 the first) that a channel holds; NONE. UNKNOWN");
        LooseMarks x = job(2, 2);
        due(x.key(0, 0, 0, 0), NONE);
        feed(x, 14, 0);
        turns(x, 0, 0, 2);
        int[] at = {LOW, -1, 0, 1, 2, 199, 200, HIGH};
        int[] keys = {NONE, NONE, 14, 0, NONE, NONE, NONE, NONE};
        for (int i = 0; i < at.length; i++) {
            due(x.key(0, 0, 0, at[i]), keys[i]);
            due(x.key(0, 1, 0, at[i]), NONE);
            due(x.key(1, 0, 0, at[i]), UNKNOWN);
            due(x.key(-1, 0, 0, at[i]), UNKNOWN);
            due(x.key(0, 2, 0, at[i]), UNKNOWN);
            due(x.key(0, -1, 0, at[i]), UNKNOWN);
            due(x.key(0, 0, 2, at[i]), UNKNOWN);
            due(x.key(0, 0, -1, at[i]), UNKNOWN);
        }
        // A BARRIER is no row of it.
        x.mark();
        due(x.channel(0, 0, 0, 1), 0);
        due(x.key(0, 0, 0, 0), 14);
        due(x.key(0, 0, 0, 2), NONE);
        turns(x, 1, 0, 3);
        due(x.key(0, 0, 0, 0), 0);
        due(x.key(0, 0, 0, 1), NONE);
        x.turn(1, 0);
        due(x.key(0, 0, 0, 0), NONE);
    }

    private static void value() {
        says("18: Its VALUE; 0 when there is none such");
        LooseMarks x = job(2, 2);
        due(x.value(0, 0, 0, 0), 0);
        x.feed(2, Long.MIN_VALUE);
        x.feed(4, Long.MAX_VALUE);
        turns(x, 0, 0, 2);
        due(x.value(0, 0, 0, 0), Long.MIN_VALUE);
        due(x.value(0, 0, 0, 1), Long.MAX_VALUE);
        int[] none = {LOW, -1, 2, 3, HIGH};
        for (int i : none) {
            due(x.value(0, 0, 0, i), 0);
        }
        int[][] channels = {{-1, 0, 0}, {1, 0, 0}, {0, -1, 0}, {0, 2, 0}, {0, 0, -1}, {0, 0, 2}, {0, 1, 0},
            {LOW, 0, 0}, {HIGH, 0, 0}, {0, LOW, 0}, {0, HIGH, 0}, {0, 0, LOW}, {0, 0, HIGH}};
        for (int[] at : channels) {
            due(x.value(at[0], at[1], at[2], 0), 0);
        }
        turns(x, 1, 0, 1);
        due(x.value(0, 0, 0, 0), Long.MAX_VALUE);
        due(x.value(0, 0, 0, 1), 0);
    }

    private static void marked() {
        says("19: Of a mark: what = 0 .. 3, 10 + s. UNKNOWN, OUTSIDE");
        for (int stages = 2; stages <= 4; stages++) {
            LooseMarks x = new LooseMarks(stages);
            due(x.marked(0, 0), UNKNOWN);
            x.mark();
            int[] outside = {LOW, LOW + 9, -1, 4, 5, 9, 10 + stages, HIGH};
            for (int what : outside) {
                due(x.marked(0, what), OUTSIDE);
                due(x.marked(1, what), UNKNOWN);
                due(x.marked(-1, what), UNKNOWN);
            }
            for (int stage = 0; stage < stages; stage++) {
                due(x.marked(0, 10 + stage), 1);
            }
            int[] none = {LOW, -1, 1, 7, 8, HIGH};
            for (int mark : none) {
                due(x.marked(mark, 0), UNKNOWN);
            }
            for (int mark = 1; mark < 8; mark++) {
                x.giveUp();
                due(x.mark(), mark);
            }
            due(x.marked(7, 0), UNDER_WAY);
            due(x.marked(8, 0), UNKNOWN);
        }
    }

    private static void markedAsTheyWere() {
        says("19: rows KEPT (of one that FAILED or was given up: as they were)");
        LooseMarks x = job(1, 2);
        feed(x, 0, 1, 3, 2);
        turns(x, 0, 0, 3);
        x.limit(2);
        x.mark();
        due(x.marked(0, 0), FAILED);
        due(x.marked(0, 1), 2);
        due(x.marked(0, 2), 2);
        kept(x, 0, 0, 0, 0, 0);
        kept(x, 0, 0, 0, 1, 1);
        x.limit(3);
        x.mark();
        due(x.giveUp(), 1);
        due(x.marked(1, 1), 3);
        due(x.marked(1, 2), 2);
        kept(x, 1, 0, 0, 1, 1, 3);
        // Whatever comes then.
        x.run(9);
        due(x.marked(0, 1), 2);
        due(x.marked(1, 1), 3);
        due(x.keptMany(0, 0, 0), 1);
        due(x.keptMany(1, 0, 2), 0);
        due(x.keptValue(1, 0, 0, 1, 1), 203);
    }

    private static void markedTurns() {
        says("19: TURNS from its beginning to its end (so far)");
        LooseMarks x = job(1, 1);
        x.run(3);
        x.mark();
        for (int turns = 0; turns < 5; turns++) {
            due(x.marked(0, 3), turns);
            x.turn(0, 0);
        }
        // The turn in which it ends is one of them.
        due(x.turn(1, 0), 2);
        due(x.marked(0, 3), 6);
        x.run(2);
        due(x.marked(0, 3), 6);
        x.mark();
        x.run(1);
        due(x.marked(1, 0), WHOLE);
        due(x.marked(1, 3), 2);
        x.mark();
        x.turn(0, 0);
        x.giveUp();
        x.run(1);
        due(x.marked(2, 3), 1);
        x.mark();
        x.turn(0, 0);
        x.restore(0, 1, 1, 1, 1);
        x.run(1);
        due(x.marked(3, 3), 1);
        x.feed(0, 0);
        x.turn(0, 0);
        x.limit(0);
        x.mark();
        x.run(1);
        due(x.marked(4, 0), FAILED);
        due(x.marked(4, 3), 0);
    }

    private static void markedWidths() {
        says("19: 10 + s P of stage s, as it began");
        LooseMarks x = job(1, 2, 3, 4);
        x.mark();
        x.run(5);
        due(x.marked(0, 0), WHOLE);
        due(x.restore(0, 4, 3, 2, 1), 0);
        x.mark();
        for (int stage = 0; stage < 4; stage++) {
            due(x.marked(0, 10 + stage), 1 + stage);
            due(x.marked(1, 10 + stage), 4 - stage);
            due(x.about(10 + stage), 4 - stage);
        }
    }

    private static void keptMany() {
        says("20: MANY of a KEY in a stage that a mark KEPT (0 if it did not). UNKNOWN (mark, stage), OUTSIDE (key)");
        LooseMarks x = job(1, 2);
        x.bound(NONE);
        feed(x, 0, 15);
        turns(x, 0, 0, 2);
        turns(x, 1, 0, 1);
        turns(x, 1, 1, 1);
        due(x.keptMany(0, 0, 0), UNKNOWN);
        x.mark();
        due(x.turn(1, 1), 2);
        due(x.keptMany(0, 0, 0), 1);
        due(x.keptMany(0, 0, 1), 0);
        due(x.keptMany(0, 0, 15), 1);
        due(x.keptMany(0, 1, 15), 1);
        // Its task did not take part yet.
        due(x.keptMany(0, 1, 0), 0);
        x.giveUp();
        due(x.keptMany(0, 1, 15), 1);
        due(x.keptMany(0, 1, 0), 0);
        int[] odd = {LOW, -1, 16, HIGH};
        for (int n : odd) {
            due(x.keptMany(n, 0, 0), UNKNOWN);
            due(x.keptMany(n, 0, 16), UNKNOWN);
            due(x.keptMany(0, n, 0), UNKNOWN);
            due(x.keptMany(0, n, 16), UNKNOWN);
            due(x.keptMany(0, 0, n), OUTSIDE);
        }
        due(x.keptMany(1, 0, 0), UNKNOWN);
        due(x.keptMany(0, 2, 0), UNKNOWN);
    }

    private static void keptSum() {
        says("21: SUM likewise; 0 if there is none such");
        LooseMarks x = job(1, 2);
        x.bound(NONE);
        x.feed(0, -9);
        x.feed(15, Long.MIN_VALUE);
        turns(x, 0, 0, 2);
        turns(x, 1, 0, 1);
        turns(x, 1, 1, 1);
        due(x.keptSum(0, 0, 0), 0);
        x.mark();
        due(x.turn(1, 1), 2);
        due(x.keptSum(0, 0, 0), -9);
        due(x.keptSum(0, 0, 15), Long.MIN_VALUE);
        due(x.keptSum(0, 1, 15), Long.MIN_VALUE);
        due(x.keptSum(0, 1, 0), 0);
        int[] odd = {LOW, -1, 16, HIGH};
        for (int n : odd) {
            due(x.keptSum(n, 0, 0), 0);
            due(x.keptSum(0, n, 0), 0);
            due(x.keptSum(0, 0, n), 0);
            due(x.keptSum(0, 1, n), 0);
        }
        due(x.keptSum(1, 0, 0), 0);
        due(x.keptSum(0, 2, 0), 0);
        due(x.turn(1, 0), 2);
        due(x.keptSum(0, 1, 0), -9);
    }

    private static void keptRows() {
        says("22: How many rows a mark KEPT for a channel (of those that there were). UNKNOWN");
        LooseMarks x = job(2, 3);
        feed(x, 0, 6, 5);
        turns(x, 0, 0, 2);
        turns(x, 0, 1, 1);
        due(x.kept(0, 0, 0, 0), UNKNOWN);
        x.mark();
        int[][] rows = {{2, 0, 0}, {0, 0, 1}};
        int[][] now = {{2, 3}, {1, 4}, {4, 1}};
        for (int[] p : now) {
            if (x.marked(0, 0) == WHOLE) {
                due(x.restore(0, p[0], p[1], 1, 1), 3);
            }
            for (int n = 0; n < 36; n++) {
                int from = n / 6 - 1, to = n % 6 - 1;
                boolean was = from >= 0 && from < 2 && to >= 0 && to < 3;
                due(x.kept(0, 0, from, to), was ? rows[from][to] : UNKNOWN);
            }
            x.run(4);
            due(x.marked(0, 0), WHOLE);
        }
        int[] none = {LOW, -1, 1, 8, HIGH};
        for (int n : none) {
            due(x.kept(n, 0, 0, 0), UNKNOWN);
            due(x.kept(0, n, 0, 0), UNKNOWN);
        }
        due(x.kept(0, 0, LOW, 0), UNKNOWN);
        due(x.kept(0, 0, HIGH, 0), UNKNOWN);
        due(x.kept(0, 0, 0, LOW), UNKNOWN);
        due(x.kept(0, 0, 0, HIGH), UNKNOWN);
    }

    private static void keptKey() {
        says("23: The KEY of row i of these; NONE. UNKNOWN");
        LooseMarks x = job(2, 2);
        feed(x, 14, 0, 1);
        turns(x, 0, 0, 2);
        turns(x, 0, 1, 1);
        due(x.keptKey(0, 0, 0, 0, 0), UNKNOWN);
        x.mark();
        int[] at = {LOW, -1, 0, 1, 2, 199, 200, HIGH};
        int[] keys = {NONE, NONE, 14, 0, NONE, NONE, NONE, NONE};
        for (int i = 0; i < at.length; i++) {
            due(x.keptKey(0, 0, 0, 0, at[i]), keys[i]);
            due(x.keptKey(0, 0, 0, 1, at[i]), NONE);
            due(x.keptKey(0, 0, 1, 1, at[i]), at[i] == 0 ? 1 : NONE);
            due(x.keptKey(1, 0, 0, 0, at[i]), UNKNOWN);
            due(x.keptKey(-1, 0, 0, 0, at[i]), UNKNOWN);
            due(x.keptKey(0, 1, 0, 0, at[i]), UNKNOWN);
            due(x.keptKey(0, -1, 0, 0, at[i]), UNKNOWN);
            due(x.keptKey(0, 0, 2, 0, at[i]), UNKNOWN);
            due(x.keptKey(0, 0, -1, 0, at[i]), UNKNOWN);
            due(x.keptKey(0, 0, 0, 2, at[i]), UNKNOWN);
            due(x.keptKey(0, 0, 0, -1, at[i]), UNKNOWN);
        }
    }

    private static void keptValue() {
        says("24: Its VALUE; 0 when there is none such");
        LooseMarks x = job(2, 2);
        x.feed(14, Long.MIN_VALUE);
        x.feed(0, Long.MAX_VALUE);
        turns(x, 0, 0, 2);
        due(x.keptValue(0, 0, 0, 0, 0), 0);
        x.mark();
        due(x.keptValue(0, 0, 0, 0, 0), Long.MIN_VALUE);
        due(x.keptValue(0, 0, 0, 0, 1), Long.MAX_VALUE);
        int[] none = {LOW, -1, 2, 3, 200, HIGH};
        for (int n : none) {
            due(x.keptValue(0, 0, 0, 0, n), 0);
            due(x.keptValue(n, 0, 0, 0, 0), 0);
            due(x.keptValue(0, n, 0, 0, 0), 0);
            due(x.keptValue(0, 0, n, 0, 0), 0);
            due(x.keptValue(0, 0, 0, n, 0), 0);
        }
        due(x.keptValue(1, 0, 0, 0, 0), 0);
        due(x.keptValue(0, 1, 0, 0, 0), 0);
        due(x.keptValue(0, 0, 1, 1, 0), 0);
    }

    private static void audit() {
        says("25: How many are not so (it is always 0)");
        for (int stages = 2; stages <= 4; stages++) {
            LooseMarks x = new LooseMarks(stages);
            due(x.audit(), 0);
            x.wide(0, 3);
            x.wide(1, 2);
            x.capacity(20);
            for (int i = 0; i < 100; i++) {
                x.feed(i * 7 % 16, Long.MAX_VALUE - i);
            }
            due(x.audit(), 0);
            int[] bounds = {0, NONE, 1, 5};
            for (int mark = 0; mark < 8; mark++) {
                x.run(5);
                due(x.audit(), 0);
                x.bound(bounds[mark % 4]);
                x.limit(mark == 4 ? 2 : 200);
                x.mark();
                due(x.audit(), 0);
                x.run(1);
                due(x.audit(), 0);
                if (mark == 5) {
                    x.giveUp();
                    due(x.audit(), 0);
                }
                x.run(30);
                due(x.audit(), 0);
                x.restore(mark, 1 + mark % 4, 1 + mark % 3, 1 + mark % 2, 2);
                due(x.audit(), 0);
            }
        }
    }
}
