/** The sentences of part 3, A MARK, that name a boundary: one test for each. */
public final class MarkBoundsTest extends Sentences {
    public static void main(String[] args) {
        underWayUntil();
        looselyIfBoundIs0();
        allTasksOfStage0InOrder();
        keysAsTheyAre();
        behindAllRows();
        looselyAtTheFront();
        channelsInOrder();
        looseChannelCame();
        looseChannelEndsWaiting();
        cameOverAll();
        waitsAndShuts();
        takenRowsAreKept();
        keptBehindThoseThatAre();
        limitAtFirst();
        limitOneByOne();
        limitOfTakenRows();
        limitOf200();
        limitLowered();
        limitOfEachMark();
        wholeWithTheLastBarrier();
        allTookPartIsNotEnough();
        traceless();
        turnGoesOn();
        noBarriersFromThenOn();
        eightMarks();
        end();
    }

    private static void underWayUntil() {
        says("A MARK is UNDER WAY from mark() until it is WHOLE, FAILS, or is given up");
        LooseMarks x = job(1, 1);
        feed(x, 0, 0, 0);
        turns(x, 0, 0, 1);
        due(x.about(5), NONE);
        due(x.mark(), 0);
        due(x.about(5), 0);
        due(x.marked(0, 0), UNDER_WAY);
        turns(x, 0, 0, 1);
        due(x.marked(0, 0), UNDER_WAY);
        due(x.turn(1, 0), 2);
        due(x.about(5), NONE);
        due(x.marked(0, 0), WHOLE);
        due(x.mark(), 1);
        due(x.about(5), 1);
        due(x.giveUp(), 1);
        due(x.about(5), NONE);
        due(x.marked(1, 0), GIVEN_UP);
        x.limit(1);
        due(x.mark(), 2);
        due(x.about(5), NONE);
        due(x.marked(2, 0), FAILED);
        // What ended does not change.
        x.limit(200);
        x.mark();
        x.run(5);
        int[] states = {WHOLE, GIVEN_UP, FAILED, WHOLE};
        for (int mark = 0; mark < 4; mark++) {
            due(x.marked(mark, 0), states[mark]);
        }
    }

    private static void looselyIfBoundIs0() {
        says("all tasks of stage 0 .. TAKE PART, loosely if BOUND is 0");
        int[] bounds = {NONE, 0, 1, 1000};
        for (int bound : bounds) {
            LooseMarks x = job(2, 2);
            x.bound(bound);
            feed(x, 0, 2, 1);
            turns(x, 0, 0, 2);
            turns(x, 0, 1, 1);
            x.mark();
            due(x.task(0, 0, 0), 1);
            due(x.task(0, 1, 0), 1);
            due(x.channel(0, 0, 0, 1), bound == 0 ? 0 : 2);
            due(x.channel(0, 1, 1, 1), bound == 0 ? 0 : 1);
            due(x.channel(0, 0, 1, 1), 0);
            due(x.marked(0, 1), bound == 0 ? 3 : 0);
            due(x.marked(0, 2), bound == 0 ? 4 : 0);
            due(x.task(1, 0, 0), 0);
            due(x.task(1, 1, 0), 0);
        }
    }

    private static void allTasksOfStage0InOrder() {
        says("As it begins, all tasks of stage 0, in order, TAKE PART");
        LooseMarks x = job(4, 1);
        feed(x, 3, 2, 1, 0);
        for (int task = 3; task >= 0; task--) {
            turns(x, 0, task, 1);
        }
        for (int limit = 0; limit < 4; limit++) {
            x.limit(limit);
            due(x.mark(), limit);
            due(x.marked(limit, 0), FAILED);
            for (int task = 0; task < 4; task++) {
                due(x.kept(limit, 0, task, 0), task < limit ? 1 : 0);
            }
            due(x.marked(limit, 2), limit + 1);
        }
        x.limit(4);
        due(x.mark(), 4);
        due(x.marked(4, 0), UNDER_WAY);
        for (int task = 0; task < 4; task++) {
            due(x.task(0, task, 0), 1);
        }
    }

    private static void keysAsTheyAre() {
        says("MANY and SUM of the task's KEYS, as they are, are KEPT in the mark");
        LooseMarks x = job(1, 2);
        x.bound(NONE);
        feed(x, 0, 15, 14, 1, 0, 15);
        turns(x, 0, 0, 4);
        turns(x, 1, 0, 2);
        turns(x, 1, 1, 2);
        x.mark();
        for (int key = 0; key < 16; key++) {
            due(x.keptMany(0, 0, key), x.many(0, key));
            due(x.keptSum(0, 0, key), x.sum(0, key));
            due(x.keptMany(0, 1, key), 0);
            due(x.keptSum(0, 1, key), 0);
        }
        turns(x, 0, 0, 2);
        due(x.turn(1, 1), 2);
        due(x.turn(1, 1), 1);
        for (int key = 0; key < 16; key++) {
            boolean odd = key == 1 || key == 15;
            due(x.keptMany(0, 0, key), odd || key == 0 || key == 14 ? 1 : 0);
            due(x.keptMany(0, 1, key), odd ? 1 : 0);
            due(x.keptSum(0, 1, key), key == 1 ? 301 : key == 15 ? 115 : 0);
        }
        due(x.many(1, 15), 2);
        due(x.turn(1, 0), 2);
        due(x.keptMany(0, 1, 0), 1);
        due(x.keptMany(0, 1, 14), 1);
        due(x.keptMany(0, 1, 15), 1);
        due(x.turn(1, 0), 1);
        due(x.keptMany(0, 1, 0), 1);
        due(x.many(1, 0), 2);
    }

    private static void behindAllRows() {
        says("then a BARRIER comes into each of the channels that lead from it, in order: behind all rows");
        LooseMarks x = job(1, 4);
        x.bound(NONE);
        x.capacity(3);
        feed(x, 1, 2, 2, 3, 3, 3);
        turns(x, 0, 0, 6);
        // Empty, FULL, and between.
        x.mark();
        for (int to = 0; to < 4; to++) {
            due(x.channel(0, 0, to, 0), to);
            due(x.channel(0, 0, to, 1), to);
        }
        due(x.marked(0, 1), 0);
        due(x.marked(0, 2), 0);
        // More than CAPACITY.
        x.giveUp();
        x.capacity(1);
        x.mark();
        due(x.channel(0, 0, 3, 1), 3);
    }

    private static void looselyAtTheFront() {
        says("but loosely at the front: then the rows that it OVERTAKES are KEPT for that channel, in their order,"
                + " and the channel is LOOSE");
        LooseMarks x = job(1, 3);
        x.capacity(4);
        feed(x, 13, 1, 7, 4, 2);
        turns(x, 0, 0, 5);
        x.mark();
        for (int to = 0; to < 3; to++) {
            due(x.channel(0, 0, to, 1), 0);
        }
        kept(x, 0, 0, 0, 0);
        kept(x, 0, 0, 0, 1, 13, 1, 7, 4);
        kept(x, 0, 0, 0, 2, 2);
        due(x.keptValue(0, 0, 0, 1, 0), 13);
        due(x.keptValue(0, 0, 0, 1, 3), 304);
        // The rows are still there, and the channel without rows is LOOSE too.
        holds(x, 0, 0, 1, 13, 1, 7, 4);
        due(x.marked(0, 2), 3);
        due(x.marked(0, 1), 5);
        // What comes behind the BARRIER is not KEPT.
        feed(x, 0);
        due(x.turn(0, 0), 1);
        due(x.turn(1, 0), 2);
        due(x.turn(1, 0), 1);
        kept(x, 0, 0, 0, 0);
        due(x.turn(1, 1), 2);
        due(x.turn(1, 1), 1);
        kept(x, 0, 0, 0, 1, 13, 1, 7, 4);
    }

    private static void channelsInOrder() {
        says("a BARRIER comes into each of the channels that lead from it, in order");
        LooseMarks x = job(1, 4);
        feed(x, 3, 2, 1, 0);
        turns(x, 0, 0, 4);
        for (int limit = 0; limit < 4; limit++) {
            x.limit(limit);
            x.mark();
            due(x.marked(limit, 0), FAILED);
            for (int to = 0; to < 4; to++) {
                due(x.kept(limit, 0, 0, to), to < limit ? 1 : 0);
            }
            due(x.marked(limit, 2), limit + 1);
        }
    }

    private static void looseChannelCame() {
        says("if the channel is LOOSE .. the task TAKES PART loosely");
        // Its only channel, so that all came as well: loosely goes first.
        LooseMarks x = job(2, 1, 1, 1);
        x.bound(1);
        feed(x, 0, 1);
        turns(x, 0, 0, 1);
        turns(x, 1, 0, 1);
        turns(x, 2, 0, 1);
        turns(x, 0, 1, 1);
        x.mark();
        due(x.turn(1, 0), 2);
        due(x.turn(1, 0), 3);
        due(x.channel(1, 0, 0, 1), 0);
        due(x.marked(0, 2), 1);
        due(x.turn(2, 0), 2);
        due(x.task(2, 0, 0), 1);
        due(x.channel(2, 0, 0, 1), 0);
        kept(x, 0, 2, 0, 0, 0);
        due(x.marked(0, 2), 2);
        // Not LOOSE: not loosely.
        LooseMarks y = job(1, 1, 1, 1);
        y.bound(1);
        feed(y, 0);
        turns(y, 0, 0, 1);
        turns(y, 1, 0, 1);
        turns(y, 2, 0, 1);
        y.mark();
        due(y.turn(1, 0), 2);
        due(y.turn(2, 0), 2);
        due(y.channel(2, 0, 0, 1), 1);
        kept(y, 0, 2, 0, 0);
        due(y.marked(0, 2), 0);
    }

    private static void looseChannelEndsWaiting() {
        says("When a BARRIER CAME over a channel to a task that did not TAKE PART: if the channel is LOOSE");
        LooseMarks x = job(2, 3, 1, 1);
        x.bound(3);
        feed(x, 0, 1);
        turns(x, 0, 0, 1);
        turns(x, 1, 0, 1);
        turns(x, 2, 0, 1);
        turns(x, 0, 1, 1);
        x.mark();
        due(x.turn(1, 1), 2);
        due(x.turn(1, 0), 2);
        due(x.turn(1, 0), 2);
        due(x.task(1, 0, 0), 1);
        due(x.turn(2, 0), 2);
        due(x.task(2, 0, 1), 1);
        due(x.channel(1, 0, 0, 3), 1);
        due(x.turn(1, 1), 3);
        // It waits for three; the second one is LOOSE.
        due(x.turn(2, 0), 2);
        due(x.task(2, 0, 0), 1);
        due(x.task(2, 0, 1), 0);
        due(x.task(2, 0, 2), 2);
        due(x.channel(1, 0, 0, 3), 0);
        due(x.channel(1, 1, 0, 3), 0);
        due(x.channel(2, 0, 0, 1), 0);
        kept(x, 0, 2, 0, 0, 0);
    }

    private static void cameOverAll() {
        says("else if BARRIERS came over all its channels, it TAKES PART, not loosely");
        for (int p = 1; p <= 4; p++) {
            LooseMarks x = job(p, 1, 1);
            x.bound(NONE);
            feed(x, 0);
            turns(x, 0, 0, 1);
            turns(x, 1, 0, 1);
            x.mark();
            for (int came = 1; came <= p; came++) {
                due(x.turn(1, 0), 2);
                due(x.task(1, 0, 0), came == p ? 1 : 0);
                due(x.task(1, 0, 1), came == p ? 0 : 1);
                due(x.task(1, 0, 2), came);
            }
            due(x.channel(1, 0, 0, 1), 1);
            kept(x, 0, 1, 0, 0);
            due(x.marked(0, 2), 0);
        }
    }

    private static void waitsAndShuts() {
        says("else it WAITS: channels over which they came are SHUT until it TAKES PART");
        LooseMarks x = job(3, 2, 1);
        x.bound(NONE);
        feed(x, 0, 3, 4);
        turns(x, 0, 0, 1);
        x.mark();
        due(x.channel(0, 1, 0, 3), 0);
        due(x.turn(1, 0), 2);
        due(x.turn(1, 0), 2);
        int[] shut = {0, 1, 1};
        for (int from = 0; from < 3; from++) {
            due(x.channel(0, from, 0, 2), shut[from]);
            due(x.channel(0, from, 0, 3), shut[from]);
            due(x.channel(0, from, 1, 3), 0);
        }
        due(x.task(1, 0, 1), 1);
        due(x.task(1, 1, 1), 0);
        turns(x, 0, 1, 1);
        due(x.channel(0, 1, 0, 0), 1);
        due(x.turn(1, 0), 1);
        due(x.many(1, 4), 0);
        due(x.turn(1, 0), 2);
        due(x.task(1, 0, 0), 1);
        for (int from = 0; from < 3; from++) {
            due(x.channel(0, from, 0, 2), 1);
            due(x.channel(0, from, 0, 3), 0);
        }
        due(x.turn(1, 0), 1);
        due(x.many(1, 4), 1);
        // By BOUND as well.
        LooseMarks y = job(2, 1);
        y.bound(2);
        feed(y, 1, 0);
        turns(y, 0, 1, 1);
        y.mark();
        turns(y, 0, 0, 1);
        due(y.turn(1, 0), 2);
        due(y.channel(0, 0, 0, 3), 1);
        turns(y, 0, 0, 1);
        due(y.turn(1, 0), 3);
        due(y.channel(0, 0, 0, 3), 0);
        due(y.turn(1, 0), 1);
        due(y.many(1, 0), 1);
    }

    private static void takenRowsAreKept() {
        says("Of a task that TOOK PART, while the BARRIER did not come over a channel, each row that it takes from"
                + " that channel is KEPT for the channel, and the channel is LOOSE");
        LooseMarks x = job(2, 1);
        x.bound(1);
        feed(x, 1, 3, 5, 0);
        turns(x, 0, 1, 2);
        x.mark();
        turns(x, 0, 1, 1);
        due(x.turn(1, 0), 2);
        due(x.turn(1, 0), 3);
        turns(x, 0, 0, 1);
        // From the channel over which it came.
        due(x.turn(1, 0), 1);
        due(x.many(1, 0), 1);
        due(x.marked(0, 1), 0);
        due(x.marked(0, 2), 0);
        due(x.turn(1, 0), 1);
        kept(x, 0, 0, 1, 0, 1);
        due(x.marked(0, 2), 1);
        due(x.turn(1, 0), 1);
        kept(x, 0, 0, 1, 0, 1, 3);
        due(x.marked(0, 2), 1);
        due(x.turn(1, 0), 2);
        due(x.marked(0, 0), WHOLE);
        due(x.turn(1, 0), 1);
        kept(x, 0, 0, 1, 0, 1, 3);
        kept(x, 0, 0, 0, 0);
        due(x.keptMany(0, 1, 0), 0);
        due(x.keptMany(0, 1, 1), 0);
        // Before it took part nothing is kept.
        LooseMarks y = job(2, 1);
        y.bound(9);
        feed(y, 1, 3);
        turns(y, 0, 1, 2);
        y.mark();
        due(y.turn(1, 0), 2);
        due(y.turn(1, 0), 1);
        due(y.turn(1, 0), 1);
        due(y.turn(1, 0), 2);
        due(y.marked(0, 1), 0);
        due(y.marked(0, 2), 0);
        due(y.keptMany(0, 1, 1), 1);
    }

    private static void keptBehindThoseThatAre() {
        says("is KEPT for the channel (behind those that are)");
        LooseMarks x = job(1, 2, 1);
        feed(x, 1, 3, 5);
        turns(x, 0, 0, 3);
        turns(x, 1, 1, 3);
        x.mark();
        due(x.turn(1, 0), 2);
        due(x.turn(2, 0), 2);
        // Stage 2 takes one row before the barrier of its channel is put, which overtakes the others.
        due(x.turn(2, 0), 1);
        kept(x, 0, 1, 1, 0, 1);
        due(x.turn(1, 1), 2);
        kept(x, 0, 1, 1, 0, 1, 3, 5);
        due(x.turn(2, 0), 2);
        due(x.marked(0, 0), WHOLE);
        due(x.marked(0, 1), 3);
        due(x.marked(0, 2), 4);
        due(x.restore(0, 1, 1, 1, 1), 3);
        holds(x, 1, 0, 0, 1, 3, 5);
        // Two rows of one channel, with one of another kept between them.
        LooseMarks y = job(3, 1);
        y.bound(1);
        feed(y, 1, 4, 2);
        turns(y, 0, 1, 2);
        turns(y, 0, 2, 1);
        y.mark();
        due(y.turn(1, 0), 2);
        due(y.turn(1, 0), 3);
        turns(y, 1, 0, 2);
        kept(y, 0, 0, 1, 0, 1);
        kept(y, 0, 0, 2, 0, 2);
        due(y.turn(1, 0), 2);
        due(y.turn(1, 0), 1);
        kept(y, 0, 0, 1, 0, 1, 4);
        kept(y, 0, 0, 2, 0, 2);
        due(y.marked(0, 2), 2);
    }

    private static void limitAtFirst() {
        says("LIMIT (0 .. 200; 200 at first)");
        LooseMarks x = job(1, 1);
        due(x.about(9), 200);
        due(x.limit(0), 200);
        // No row at all need be kept.
        x.mark();
        due(x.marked(0, 0), UNDER_WAY);
        due(x.turn(1, 0), 2);
        due(x.marked(0, 0), WHOLE);
        feed(x, 0);
        turns(x, 0, 0, 1);
        x.mark();
        due(x.marked(1, 0), FAILED);
        due(x.marked(1, 1), 0);
        due(x.limit(200), 0);
        due(x.limit(201), OUTSIDE);
        due(x.limit(-1), OUTSIDE);
        due(x.about(9), 200);
    }

    private static void limitOneByOne() {
        says("rows are KEPT one by one; when one would be more than that, all channels together, it is not KEPT,"
                + " and the mark FAILS at once (the channel is LOOSE all the same)");
        for (int limit = 0; limit <= 5; limit++) {
            LooseMarks x = job(1, 2);
            feed(x, 0, 1, 2, 3);
            turns(x, 0, 0, 4);
            x.limit(limit);
            due(x.mark(), 0);
            int rows = Math.min(limit, 4);
            due(x.marked(0, 0), limit < 4 ? FAILED : UNDER_WAY);
            due(x.about(5), limit < 4 ? NONE : 0);
            due(x.marked(0, 1), rows);
            due(x.kept(0, 0, 0, 0), Math.min(rows, 2));
            due(x.kept(0, 0, 0, 1), Math.max(rows - 2, 0));
            due(x.marked(0, 2), limit < 2 ? 1 : 2);
            due(x.channel(0, 0, 0, 1), limit < 4 ? NONE : 0);
            due(x.channel(0, 0, 1, 1), limit < 4 ? NONE : 0);
            due(x.about(6), 4);
        }
    }

    private static void limitOfTakenRows() {
        says("when one would be more than that .. (each row that it takes)");
        for (int limit = 0; limit <= 3; limit++) {
            LooseMarks x = job(2, 1);
            x.bound(1);
            x.limit(limit);
            feed(x, 1, 3);
            turns(x, 0, 1, 2);
            x.mark();
            due(x.turn(1, 0), 2);
            due(x.turn(1, 0), 3);
            due(x.marked(0, 2), 0);
            due(x.turn(1, 0), 1);
            due(x.marked(0, 0), limit < 1 ? FAILED : UNDER_WAY);
            due(x.marked(0, 2), 1);
            due(x.turn(1, 0), 1);
            due(x.marked(0, 0), limit < 2 ? FAILED : UNDER_WAY);
            due(x.marked(0, 1), Math.min(limit, 2));
            due(x.marked(0, 2), 1);
            due(x.marked(0, 3), Math.min(limit, 2) < 2 ? 3 + limit : 4);
            due(x.many(1, 1) + x.many(1, 3), 2);
            due(x.turn(1, 0), limit < 2 ? 0 : 2);
            due(x.marked(0, 0), limit < 2 ? FAILED : WHOLE);
        }
    }

    private static void limitOf200() {
        says("LIMIT (.. 200 ..): all INPUT rows are KEPT by one mark");
        int[] limits = {199, 200};
        for (int limit : limits) {
            LooseMarks x = job(4, 3);
            x.capacity(20);
            for (int i = 0; i < 200; i++) {
                x.feed(i % 12, i);
            }
            for (int task = 0; task < 4; task++) {
                turns(x, 0, task, 50);
            }
            due(x.about(6), 200);
            x.limit(limit);
            x.mark();
            due(x.marked(0, 0), limit < 200 ? FAILED : UNDER_WAY);
            due(x.marked(0, 1), limit);
            due(x.marked(0, 2), 12);
            // The last one of the last channel, from 3 to 2: KEY 11.
            due(x.kept(0, 0, 3, 2), limit < 200 ? 15 : 16);
            if (limit == 200) {
                x.run(4);
                due(x.marked(0, 0), WHOLE);
                due(x.restore(0, 1, 1, 1, 1), 200);
                due(x.channel(0, 0, 0, 0), 200);
                due(x.key(0, 0, 0, 199), 11);
                due(x.value(0, 0, 0, 199), 191);
                due(x.key(0, 0, 0, 200), NONE);
                due(x.audit(), 0);
            }
        }
    }

    private static void limitLowered() {
        says("when one would be more than that (as LIMIT is then)");
        LooseMarks x = job(2, 1);
        x.bound(1);
        feed(x, 1, 3, 5, 7);
        turns(x, 0, 1, 4);
        x.mark();
        due(x.turn(1, 0), 2);
        due(x.turn(1, 0), 3);
        turns(x, 1, 0, 2);
        due(x.marked(0, 1), 2);
        // Below what is KEPT already: nothing happens until the next row.
        due(x.limit(1), 200);
        due(x.marked(0, 0), UNDER_WAY);
        due(x.marked(0, 1), 2);
        due(x.limit(3), 1);
        due(x.turn(1, 0), 1);
        due(x.marked(0, 0), UNDER_WAY);
        due(x.marked(0, 1), 3);
        due(x.limit(2), 3);
        due(x.turn(1, 0), 1);
        due(x.marked(0, 0), FAILED);
        due(x.marked(0, 1), 3);
    }

    private static void limitOfEachMark() {
        says("LIMIT: rows that one mark KEPT are none of another's");
        LooseMarks x = job(1, 1);
        x.limit(2);
        feed(x, 0, 1);
        turns(x, 0, 0, 2);
        for (int mark = 0; mark < 8; mark++) {
            due(x.mark(), mark);
            due(x.marked(mark, 0), UNDER_WAY);
            due(x.marked(mark, 1), 2);
            due(x.turn(1, 0), 2);
            due(x.marked(mark, 0), WHOLE);
        }
    }

    private static void wholeWithTheLastBarrier() {
        says("When all tasks TOOK PART, and BARRIERS came over all channels, it is WHOLE");
        int[] bounds = {NONE, 0, 1000};
        for (int bound : bounds) {
            LooseMarks x = job(4, 4, 4, 4);
            x.bound(bound);
            x.mark();
            for (int n = 0; n < 48; n++) {
                due(x.marked(0, 0), UNDER_WAY);
                due(x.turn(1 + n / 16, n / 4 % 4), 2);
            }
            due(x.marked(0, 0), WHOLE);
            due(x.marked(0, 3), 48);
            noTrace(x);
        }
    }

    private static void allTookPartIsNotEnough() {
        says("and BARRIERS came over all channels");
        LooseMarks x = job(2, 1);
        x.bound(1);
        feed(x, 1);
        turns(x, 0, 1, 1);
        x.mark();
        due(x.turn(1, 0), 2);
        due(x.turn(1, 0), 3);
        due(x.task(0, 0, 0) + x.task(0, 1, 0) + x.task(1, 0, 0), 3);
        due(x.marked(0, 0), UNDER_WAY);
        due(x.turn(1, 0), 1);
        due(x.marked(0, 0), UNDER_WAY);
        due(x.turn(1, 0), 2);
        due(x.marked(0, 0), WHOLE);
    }

    /** A whole mark 0; of mark 1 task 0 of stage 1 waits, and task 1 took part by BOUND. */
    private static LooseMarks inTheMidst() {
        LooseMarks x = job(2, 2, 1);
        x.mark();
        x.run(2);
        due(x.marked(0, 0), WHOLE);
        x.bound(2);
        x.limit(0);
        feed(x, 0, 1, 3);
        turns(x, 0, 0, 1);
        turns(x, 0, 1, 2);
        x.mark();
        due(x.turn(1, 1), 2);
        due(x.turn(0, 0), 0);
        due(x.turn(1, 0), 2);
        due(x.turn(1, 1), 3);
        due(x.task(1, 0, 1), 1);
        due(x.task(1, 0, 2), 1);
        due(x.task(1, 1, 0), 1);
        due(x.channel(0, 1, 0, 3), 1);
        due(x.channel(0, 0, 0, 1), 1);
        due(x.channel(0, 1, 1, 1), 2);
        due(x.channel(1, 1, 0, 1), 0);
        return x;
    }

    private static void traceless() {
        says("When it FAILS, or is given up, BARRIERS are gone, nothing is SHUT, no task WAITS");
        LooseMarks x = inTheMidst();
        due(x.turn(1, 1), 1);
        due(x.marked(1, 0), FAILED);
        noTrace(x);
        holds(x, 0, 0, 0, 0);
        holds(x, 0, 1, 1, 3);
        holds(x, 1, 1, 0, 1);
        LooseMarks y = inTheMidst();
        due(y.giveUp(), 1);
        due(y.marked(1, 0), GIVEN_UP);
        noTrace(y);
        holds(y, 0, 0, 0, 0);
        holds(y, 0, 1, 1, 1, 3);
        LooseMarks z = inTheMidst();
        due(z.restore(0, 2, 2, 1, 1), 0);
        due(z.marked(1, 0), FAILED);
        noTrace(z);
        // And the next mark goes its way as if there had been none.
        LooseMarks[] all = {x, y, z};
        for (LooseMarks job : all) {
            job.limit(200);
            due(job.mark(), 2);
            job.run(9);
            due(job.marked(2, 0), WHOLE);
            due(job.about(2), 3);
            due(job.many(2, 0) + job.many(2, 1) + job.many(2, 3), 3);
            due(job.audit(), 0);
        }
    }

    private static void turnGoesOn() {
        says("the turn goes on as it would have without (what it takes is taken)");
        LooseMarks x = inTheMidst();
        int turns = x.about(3);
        due(x.turn(1, 1), 1);
        due(x.about(3), turns + 1);
        due(x.many(1, 1), 1);
        due(x.sum(1, 1), 101);
        due(x.task(1, 1, 3), 0);
        due(x.marked(1, 3), 5);
        // The barrier is taken, too, and the answer is the same.
        LooseMarks y = job(1, 1, 1);
        y.limit(0);
        feed(y, 5);
        turns(y, 0, 0, 1);
        turns(y, 1, 0, 1);
        y.mark();
        due(y.turn(1, 0), 2);
        due(y.marked(0, 0), FAILED);
        noTrace(y);
        // So with BOUND.
        LooseMarks z = job(2, 1, 1);
        z.limit(0);
        z.bound(1);
        feed(z, 1, 1);
        turns(z, 0, 1, 2);
        turns(z, 1, 0, 1);
        z.mark();
        due(z.turn(1, 0), 2);
        due(z.turn(1, 0), 3);
        due(z.marked(0, 0), FAILED);
        noTrace(z);
        holds(z, 0, 1, 0, 1);
        holds(z, 1, 0, 0, 1);
        // In a round the others have their turns as well.
        LooseMarks w = job(1, 1, 1);
        w.limit(0);
        feed(w, 5, 6);
        turns(w, 0, 0, 1);
        turns(w, 1, 0, 1);
        w.mark();
        due(w.run(1), 3);
        due(w.marked(0, 0), FAILED);
        due(w.about(6), 1);
        due(w.many(2, 5), 1);
    }

    private static void noBarriersFromThenOn() {
        says("a task that takes part while it fails, puts no BARRIERS from then on");
        LooseMarks x = job(1, 1, 4);
        feed(x, 1, 2);
        turns(x, 0, 0, 2);
        turns(x, 1, 0, 2);
        x.limit(0);
        x.mark();
        due(x.marked(0, 0), UNDER_WAY);
        due(x.turn(1, 0), 2);
        due(x.marked(0, 0), FAILED);
        noTrace(x);
        // One over gap 0, one that could be put in gap 1, and one that could not.
        due(x.marked(0, 2), 3);
        due(x.marked(0, 1), 0);
        due(x.keptMany(0, 1, 1), 1);
        due(x.keptSum(0, 1, 2), 102);
        for (int to = 0; to < 4; to++) {
            due(x.turn(2, to), to == 1 || to == 2 ? 1 : 0);
        }
    }

    private static void eightMarks() {
        says("Marks (8 at most) are numbered as they begin");
        LooseMarks x = job(1, 1);
        feed(x, 0);
        turns(x, 0, 0, 1);
        for (int number = 0; number < 8; number++) {
            due(x.about(4), number);
            x.limit(number % 3 == 0 ? 0 : 200);
            due(x.mark(), number);
            due(x.marked(number + 1, 0), UNKNOWN);
            if (number % 3 == 1) {
                due(x.giveUp(), number);
            } else if (number % 3 == 2) {
                due(x.turn(1, 0), 2);
            }
        }
        due(x.about(4), 8);
        // The last one was given up; FAILED, given up and WHOLE ones all have their number.
        due(x.mark(), ROOM);
        int[] states = {FAILED, GIVEN_UP, WHOLE, FAILED, GIVEN_UP, WHOLE, FAILED, GIVEN_UP};
        for (int number = 0; number < 8; number++) {
            due(x.marked(number, 0), states[number]);
        }
        due(x.restore(5, 1, 1, 1, 1), 1);
        due(x.mark(), ROOM);
        due(x.about(4), 8);
    }
}
