/** The sentences of part 4, RESTORE, that name a boundary: one test for each. */
public final class RestoreBoundsTest extends Sentences {
    public static void main(String[] args) {
        fromAWholeMark();
        onceAndAgain();
        manyAndSumOfTheMark();
        justTheRowsKept();
        gapByGap();
        byFromThenTo();
        eachInItsOrder();
        ownersNow();
        moreThanCapacity();
        noMarkUnderWay();
        noMarkToFail();
        fromChannel0();
        whatStays();
        stagesThatThereAreNot();
        goesOn();
        end();
    }

    private static void fromAWholeMark() {
        says("RESTORE, from a WHOLE mark");
        LooseMarks x = job(1, 1);
        feed(x, 0, 0);
        turns(x, 0, 0, 1);
        due(x.restore(0, 1, 1, 1, 1), UNKNOWN);
        x.mark();
        due(x.restore(0, 1, 1, 1, 1), STATE);
        due(x.marked(0, 0), UNDER_WAY);
        x.giveUp();
        due(x.restore(0, 1, 1, 1, 1), STATE);
        x.limit(0);
        x.mark();
        due(x.restore(1, 1, 1, 1, 1), STATE);
        x.limit(1);
        x.mark();
        x.turn(1, 0);
        due(x.restore(3, 1, 1, 1, 1), UNKNOWN);
        due(x.restore(2, 1, 1, 1, 1), 1);
        due(x.restore(1, 1, 1, 1, 1), STATE);
        due(x.restore(0, 1, 1, 1, 1), STATE);
    }

    private static void onceAndAgain() {
        says("from a mark the job goes on: as often as it is told, from an earlier one or a later one");
        LooseMarks x = job(2, 2);
        feed(x, 0, 1, 2, 3, 4, 5, 6, 7);
        for (int mark = 0; mark < 8; mark++) {
            x.run(1);
            due(x.mark(), mark);
            turns(x, 1, 0, 2);
            turns(x, 1, 1, 2);
            due(x.marked(mark, 0), WHOLE);
        }
        int[] order = {7, 0, 3, 3, 6, 1, 7};
        for (int mark : order) {
            due(x.restore(mark, 1 + mark % 4, 1 + mark % 3, 1, 1), x.marked(mark, 1));
            for (int key = 0; key < 8; key++) {
                due(x.many(0, key), x.keptMany(mark, 0, key));
                due(x.sum(1, key), x.keptSum(mark, 1, key));
            }
            x.run(9);
            for (int key = 0; key < 8; key++) {
                due(x.many(1, key), 1);
            }
        }
    }

    private static void manyAndSumOfTheMark() {
        says("MANY and SUM of all KEYS and stages are those that the mark KEPT");
        LooseMarks x = job(1, 2, 3, 4);
        for (int key = 0; key < 16; key++) {
            x.feed(key, 1L << key);
        }
        x.run(2);
        x.mark();
        int[] many = new int[64];
        x.run(20);
        due(x.marked(0, 0), WHOLE);
        for (int n = 0; n < 64; n++) {
            many[n] = x.keptMany(0, n / 16, n % 16);
            due(x.many(n / 16, n % 16), 1);
        }
        x.restore(0, 4, 3, 2, 1);
        int taken = 0;
        for (int n = 0; n < 64; n++) {
            due(x.many(n / 16, n % 16), many[n]);
            due(x.sum(n / 16, n % 16), many[n] << n % 16);
            taken += many[n];
        }
        // Some were taken, and some were not.
        due(taken > 4 && taken < 30 ? 1 : 0, 1);
        due(x.about(2), 2);
    }

    private static void justTheRowsKept() {
        says("channels hold just the rows KEPT for the channels");
        LooseMarks x = job(2, 2, 2);
        feed(x, 0, 1, 2, 3, 4, 5);
        x.bound(NONE);
        x.mark();
        x.run(9);
        due(x.marked(0, 0), WHOLE);
        due(x.marked(0, 1), 0);
        feed(x, 6, 7, 8, 9);
        turns(x, 0, 0, 2);
        turns(x, 0, 1, 2);
        turns(x, 1, 1, 1);
        due(x.about(6), 4);
        // What lay in them is gone, and nothing comes when nothing was kept.
        due(x.restore(0, 2, 2, 2, 1), 0);
        due(x.about(6), 0);
        due(x.about(2), 0);
        for (int n = 0; n < 8; n++) {
            holds(x, n / 4, n / 2 % 2, n % 2);
        }
        // Rows that the mark did not overtake are not in them.
        LooseMarks y = job(1, 2);
        feed(y, 0, 1, 0, 1);
        turns(y, 0, 0, 2);
        y.mark();
        turns(y, 0, 0, 2);
        due(y.channel(0, 0, 0, 0), 2);
        y.turn(1, 0);
        y.turn(1, 1);
        due(y.marked(0, 0), WHOLE);
        due(y.restore(0, 1, 2, 1, 1), 2);
        holds(y, 0, 0, 0, 0);
        holds(y, 0, 0, 1, 1);
        due(y.value(0, 0, 0, 0), 0);
        due(y.value(0, 0, 1, 0), 101);
        due(y.channel(0, 0, 0, 1), NONE);
    }

    private static void gapByGap() {
        says("gap by gap");
        LooseMarks x = job(1, 1, 1, 1);
        feed(x, 8, 9, 10, 11, 12, 13);
        turns(x, 0, 0, 5);
        turns(x, 1, 0, 3);
        turns(x, 2, 0, 2);
        turns(x, 3, 0, 1);
        x.mark();
        due(x.run(1), 1 + 1 + 1 + 1);
        due(x.marked(0, 0), WHOLE);
        due(x.restore(0, 2, 2, 2, 2), 4);
        holds(x, 0, 1, 1, 11);
        holds(x, 0, 0, 0, 12);
        holds(x, 1, 0, 0, 10);
        holds(x, 2, 1, 1, 9);
        due(x.about(6), 4);
    }

    private static void byFromThenTo() {
        says("by the channels that there were (by the task from which they lead, then that to which)");
        LooseMarks x = job(2, 3);
        feed(x, 5, 3, 1, 4, 2, 0);
        turns(x, 0, 1, 3);
        turns(x, 0, 0, 3);
        x.mark();
        x.run(2);
        due(x.marked(0, 0), WHOLE);
        due(x.restore(0, 1, 1, 1, 1), 6);
        // 0 to 0, 0 to 1, 0 to 2, 1 to 0, 1 to 1, 1 to 2.
        holds(x, 0, 0, 0, 0, 4, 2, 3, 1, 5);
        // Again, now by two channels.
        due(x.restore(0, 1, 2, 1, 1), 6);
        holds(x, 0, 0, 0, 0, 4, 2);
        holds(x, 0, 0, 1, 3, 1, 5);
        // In a later gap.
        LooseMarks y = job(1, 2, 3);
        feed(y, 5, 3, 1, 4, 2, 0);
        y.capacity(20);
        turns(y, 0, 0, 6);
        turns(y, 1, 1, 3);
        turns(y, 1, 0, 3);
        y.mark();
        y.run(2);
        due(y.marked(0, 0), WHOLE);
        due(y.restore(0, 1, 1, 1, 1), 6);
        holds(y, 1, 0, 0, 0, 4, 2, 3, 1, 5);
    }

    private static void eachInItsOrder() {
        says("each in its order, each row behind those before");
        LooseMarks x = job(2, 2);
        feed(x, 6, 3, 0, 11, 4, 6, 3);
        turns(x, 0, 1, 3);
        turns(x, 0, 0, 4);
        x.mark();
        x.run(2);
        due(x.restore(0, 1, 1, 1, 1), 7);
        holds(x, 0, 0, 0, 6, 0, 4, 6, 3, 11, 3);
        long[] values = {6, 200, 404, 506, 103, 311, 603};
        for (int i = 0; i < values.length; i++) {
            due(x.value(0, 0, 0, i), values[i]);
        }
        // Kept in turn with those of another channel, by a task that took part early.
        LooseMarks y = job(3, 1);
        y.bound(1);
        feed(y, 2, 5, 1, 4);
        turns(y, 0, 1, 2);
        turns(y, 0, 2, 2);
        y.mark();
        due(y.turn(1, 0), 2);
        due(y.turn(1, 0), 3);
        turns(y, 1, 0, 6);
        due(y.marked(0, 0), WHOLE);
        due(y.restore(0, 1, 1, 1, 1), 4);
        holds(y, 0, 0, 0, 1, 4, 2, 5);
    }

    private static void ownersNow() {
        says("in the channel of its KEY's owners now");
        for (int p0 = 1; p0 <= 4; p0++) {
            for (int p1 = 1; p1 <= 4; p1++) {
                LooseMarks x = job(2, 3, 1);
                x.capacity(20);
                for (int key = 15; key >= 0; key--) {
                    x.feed(key, key);
                }
                turns(x, 0, 0, 8);
                turns(x, 0, 1, 8);
                for (int task = 0; task < 3; task++) {
                    turns(x, 1, task, 2);
                }
                x.mark();
                x.run(4);
                due(x.marked(0, 0), WHOLE);
                due(x.restore(0, p0, p1, 3, 1), 16);
                due(x.about(10), p0);
                due(x.about(11), p1);
                due(x.about(12), 3);
                int rows = 0;
                for (int from = 0; from < p0; from++) {
                    for (int to = 0; to < p1; to++) {
                        for (int i = 0; i < x.channel(0, from, to, 0); i++) {
                            int key = x.key(0, from, to, i);
                            due(key % p0, from);
                            due(key % p1, to);
                            rows++;
                        }
                    }
                }
                due(rows, 10);
                due(x.audit(), 0);
            }
        }
    }

    private static void moreThanCapacity() {
        says("(this may be more than CAPACITY)");
        LooseMarks x = job(2, 3);
        x.capacity(1);
        feed(x, 0, 2, 4, 1, 3, 5, 0);
        turns(x, 0, 0, 3);
        turns(x, 0, 1, 3);
        x.mark();
        x.run(2);
        due(x.marked(0, 0), WHOLE);
        due(x.restore(0, 1, 1, 1, 1), 6);
        due(x.channel(0, 0, 0, 0), 6);
        due(x.about(7), 1);
        for (int i = 0; i < 6; i++) {
            due(x.turn(0, 0), 0);
            due(x.turn(1, 0), 1);
        }
        due(x.turn(0, 0), 1);
        due(x.turn(0, 0), 0);
    }

    private static void noMarkUnderWay() {
        says("No mark is under way (one that was FAILS)");
        LooseMarks x = job(2, 1);
        x.mark();
        x.run(2);
        due(x.marked(0, 0), WHOLE);
        feed(x, 1, 0);
        turns(x, 0, 1, 1);
        x.bound(NONE);
        x.mark();
        turns(x, 0, 0, 1);
        due(x.turn(1, 0), 2);
        due(x.task(1, 0, 1), 1);
        due(x.restore(0, 3, 2, 1, 1), 0);
        due(x.marked(1, 0), FAILED);
        due(x.marked(1, 3), 2);
        noTrace(x);
        x.run(1);
        due(x.marked(1, 3), 2);
        due(x.giveUp(), STATE);
        due(x.bound(5), NONE);
        due(x.mark(), 2);
        x.run(9);
        due(x.marked(2, 0), WHOLE);
        due(x.marked(1, 0), FAILED);
        due(x.restore(1, 1, 1, 1, 1), STATE);
    }

    private static void noMarkToFail() {
        says("No mark is under way (one that was ..)");
        LooseMarks x = job(1, 1);
        x.mark();
        x.giveUp();
        x.mark();
        x.turn(1, 0);
        due(x.restore(1, 2, 2, 1, 1), 0);
        // Those that had ended are as they were.
        due(x.marked(0, 0), GIVEN_UP);
        due(x.marked(1, 0), WHOLE);
        due(x.marked(1, 3), 1);
        due(x.about(5), NONE);
    }

    private static void fromChannel0() {
        says("all tasks take from channel 0 next");
        LooseMarks x = job(4, 2, 2);
        feed(x, 3, 7, 11, 1, 2, 6);
        turns(x, 0, 3, 3);
        turns(x, 0, 1, 1);
        turns(x, 0, 2, 2);
        due(x.turn(1, 1), 1);
        due(x.turn(1, 1), 1);
        due(x.turn(1, 0), 1);
        due(x.task(1, 1, 3), 0);
        due(x.task(1, 0, 3), 3);
        x.mark();
        x.run(5);
        due(x.marked(0, 0), WHOLE);
        due(x.task(1, 0, 3), 3);
        due(x.task(2, 1, 3), 0);
        due(x.task(2, 0, 3), 1);
        // To fewer, so that there is no channel 3, and to more.
        due(x.restore(0, 2, 4, 4, 1) >= 0 ? 1 : 0, 1);
        for (int task = 0; task < 4; task++) {
            due(x.task(1, task, 3), 0);
            due(x.task(2, task, 3), 0);
        }
        due(x.task(0, 0, 3), NONE);
        x.run(9);
        due(x.about(6), 0);
        due(x.audit(), 0);
    }

    private static void whatStays() {
        says("Marks, INPUT, TURNS, CAPACITY, BOUND, LIMIT stay");
        LooseMarks x = job(2, 2);
        feed(x, 0, 1, 2);
        turns(x, 0, 0, 2);
        x.mark();
        x.run(4);
        x.limit(0);
        feed(x, 1);
        turns(x, 0, 1, 1);
        x.mark();
        due(x.marked(1, 0), FAILED);
        x.bound(17);
        x.capacity(3);
        x.limit(9);
        feed(x, 3);
        int turns = x.about(3);
        long[] before = new long[14];
        for (int what = 0; what < 14; what++) {
            before[what] = x.marked(0, what) * 1000L + x.marked(1, what);
        }
        due(x.restore(0, 4, 1, 1, 1), 2);
        due(x.about(1), 5);
        due(x.about(2), 2);
        due(x.about(3), turns);
        due(x.about(4), 2);
        due(x.about(7), 3);
        due(x.about(8), 17);
        due(x.about(9), 9);
        for (int what = 0; what < 14; what++) {
            due(x.marked(0, what) * 1000L + x.marked(1, what), before[what]);
        }
        kept(x, 0, 0, 0, 0, 0, 2);
        due(x.keptMany(0, 0, 0), 1);
        due(x.keptSum(0, 0, 2), 202);
        // Nothing of it made room for another width by hand.
        due(x.wide(0, 1), STATE);
    }

    private static void stagesThatThereAreNot() {
        says("with P of stages 0 .. 3 (those that there are; others are not looked at)");
        int[] odd = {Integer.MIN_VALUE, -1, 0, 1, 4, 5, Integer.MAX_VALUE};
        for (int p : odd) {
            boolean good = p >= 1 && p <= 4;
            for (int stages = 2; stages <= 4; stages++) {
                LooseMarks x = new LooseMarks(stages);
                x.mark();
                x.run(1);
                due(x.marked(0, 0), WHOLE);
                due(x.restore(0, p, 1, 1, 1), good ? 0 : OUTSIDE);
                due(x.restore(0, 1, p, 1, 1), good ? 0 : OUTSIDE);
                due(x.restore(0, 1, 1, p, 1), good || stages < 3 ? 0 : OUTSIDE);
                due(x.restore(0, 1, 1, 1, p), good || stages < 4 ? 0 : OUTSIDE);
                due(x.restore(0, 2, 3, 4, 1), 0);
                int[] now = {2, 3, stages < 3 ? OUTSIDE : 4, stages < 4 ? OUTSIDE : 1};
                for (int stage = 0; stage < 4; stage++) {
                    due(x.about(10 + stage), now[stage]);
                }
                due(x.turn(stages, 0), UNKNOWN);
                due(x.channel(stages - 1, 0, 0, 0), UNKNOWN);
            }
        }
    }

    private static void goesOn() {
        says("from a mark the job goes on, with as many tasks in each stage as before or with others, as if it had"
                + " never stopped");
        for (int bound = NONE; bound <= 3; bound++) {
            for (int p = 0; p < 256; p += 7) {
                LooseMarks x = job(2, 3, 1, 4);
                x.bound(bound);
                for (int i = 0; i < 48; i++) {
                    x.feed(i * 11 % 16, 1L << i);
                }
                x.run(3 + p % 5);
                x.mark();
                x.run(50);
                due(x.marked(0, 0), WHOLE);
                x.restore(0, 1 + p % 4, 1 + p / 4 % 4, 1 + p / 16 % 4, 1 + p / 64);
                due(x.audit(), 0);
                x.run(50);
                long all = 0;
                for (int key = 0; key < 16; key++) {
                    due(x.many(3, key), 3);
                    all += x.sum(3, key);
                }
                due(all, (1L << 48) - 1);
                due(x.about(6), 0);
                due(x.audit(), 0);
            }
        }
    }
}
