/** The sentences of part 1, THE JOB, that name a boundary: one test for each. */
public final class TermsBoundsTest extends Sentences {
    public static void main(String[] args) {
        tasks();
        oneTaskAtFirst();
        toldForEachStage();
        channels();
        keys();
        valuesWrap();
        owners();
        inputAtMost200();
        inputStays();
        manyAndSum();
        firstOnesAreRead();
        firstToComeFirst();
        barrierAmongRows();
        full();
        fullOrMore();
        fiveAtFirst();
        callsUpTo512();
        end();
    }

    private static void tasks() {
        says("TASKS 0 .. P - 1 (P 1 .. 4)");
        for (int stages = 2; stages <= 4; stages++) {
            for (int stage = 0; stage < stages; stage++) {
                for (int p = 1; p <= 4; p++) {
                    LooseMarks x = new LooseMarks(stages);
                    due(x.wide(stage, p), 1);
                    due(x.about(10 + stage), p);
                    due(x.task(stage, -1, 0), UNKNOWN);
                    due(x.task(stage, 0, 0), 0);
                    due(x.task(stage, p - 1, 0), 0);
                    due(x.task(stage, p, 0), UNKNOWN);
                    due(x.turn(stage, -1), UNKNOWN);
                    due(x.turn(stage, p), UNKNOWN);
                    due(x.turn(stage, p - 1), 0);
                }
            }
        }
    }

    private static void oneTaskAtFirst() {
        says("(P .. one at first ..)");
        for (int stages = 2; stages <= 4; stages++) {
            LooseMarks x = new LooseMarks(stages);
            for (int stage = 0; stage < stages; stage++) {
                due(x.about(10 + stage), 1);
                due(x.task(stage, 0, 0), 0);
                due(x.task(stage, 1, 0), UNKNOWN);
            }
        }
    }

    private static void toldForEachStage() {
        says("(P .. told for each stage)");
        for (int stage = 0; stage < 4; stage++) {
            LooseMarks x = new LooseMarks(4);
            x.wide(stage, 4);
            for (int other = 0; other < 4; other++) {
                due(x.about(10 + other), other == stage ? 4 : 1);
            }
        }
    }

    private static void channels() {
        says("A CHANNEL leads from each task of a stage to each task of the next one: GAP g has those from"
                + " stage g to stage g + 1");
        int[][] jobs = {{1, 4}, {4, 1}, {2, 3, 4}, {4, 3, 2, 1}, {1, 2, 4, 3}};
        for (int[] widths : jobs) {
            LooseMarks x = job(widths);
            for (int gap = -1; gap <= widths.length; gap++) {
                for (int n = 0; n < 36; n++) {
                    int from = n / 6 - 1, to = n % 6 - 1;
                    boolean is = gap >= 0 && gap < widths.length - 1 && from >= 0 && from < widths[gap]
                            && to >= 0 && to < widths[gap + 1];
                    due(x.channel(gap, from, to, 0), is ? 0 : UNKNOWN);
                }
            }
        }
    }

    private static void keys() {
        says("ROWS have a KEY 0 .. 15");
        LooseMarks x = new LooseMarks(2);
        due(x.feed(-1, 1), OUTSIDE);
        due(x.feed(16, 1), OUTSIDE);
        for (int key = 0; key < 16; key++) {
            due(x.feed(key, key), key);
        }
        x.run(20);
        for (int key = 0; key < 16; key++) {
            due(x.many(1, key), 1);
        }
        due(x.many(1, -1), OUTSIDE);
        due(x.many(1, 16), OUTSIDE);
    }

    private static void valuesWrap() {
        says("and a VALUE (all wraps)");
        LooseMarks x = new LooseMarks(3);
        long[] values = {Long.MAX_VALUE, Long.MAX_VALUE, 2, Long.MIN_VALUE, -1};
        long[] sums = {Long.MAX_VALUE, -2, 0, Long.MIN_VALUE, Long.MAX_VALUE};
        long wrapped = 0;
        for (int i = 0; i < values.length; i++) {
            x.feed(15, values[i]);
            x.turn(0, 0);
            due(x.value(0, 0, 0, 0), values[i]);
            due(x.sum(0, 15), sums[i]);
            x.turn(1, 0);
            due(x.value(1, 0, 0, 0), values[i]);
            due(x.sum(1, 15), sums[i]);
            x.turn(2, 0);
            due(x.sum(2, 15), sums[i]);
            wrapped += values[i];
        }
        due(x.sum(2, 15), wrapped);
        due(x.audit(), 0);
        // Into a mark and out of it.
        x.feed(15, Long.MIN_VALUE);
        x.turn(0, 0);
        x.mark();
        due(x.keptSum(0, 0, 15), -1);
        due(x.keptValue(0, 0, 0, 0, 0), Long.MIN_VALUE);
        x.run(2);
        due(x.marked(0, 0), WHOLE);
        due(x.keptSum(0, 2, 15), Long.MAX_VALUE);
        due(x.sum(2, 15), -1);
        due(x.restore(0, 1, 1, 1, 1), 1);
        due(x.sum(0, 15), -1);
        due(x.sum(2, 15), Long.MAX_VALUE);
        due(x.audit(), 0);
        x.run(3);
        due(x.sum(2, 15), -1);
        due(x.audit(), 0);
    }

    private static void owners() {
        says("In a stage the task KEY modulo P OWNS the KEY: a row goes, and comes, by the owners of its KEY");
        for (int p0 = 1; p0 <= 4; p0++) {
            for (int p1 = 1; p1 <= 4; p1++) {
                for (int key = 0; key < 16; key++) {
                    LooseMarks x = job(p0, p1, 4);
                    feed(x, key);
                    for (int task = 0; task < p0; task++) {
                        due(x.turn(0, task), task == key % p0 ? 1 : 0);
                    }
                    holds(x, 0, key % p0, key % p1, key);
                    for (int task = 0; task < p1; task++) {
                        due(x.turn(1, task), task == key % p1 ? 1 : 0);
                    }
                    holds(x, 1, key % p1, key % 4, key);
                    due(x.about(6), 1);
                    for (int task = 0; task < 4; task++) {
                        due(x.turn(2, task), task == key % 4 ? 1 : 0);
                    }
                }
            }
        }
    }

    private static void inputAtMost200() {
        says("INPUT rows (200 at most)");
        LooseMarks x = new LooseMarks(2);
        for (int i = 0; i < 199; i++) {
            x.feed(3, i);
        }
        due(x.feed(3, 199), 199);
        due(x.feed(3, 200), ROOM);
        due(x.about(1), 200);
        // Reading them makes no room.
        due(x.run(50), 100);
        due(x.feed(3, 200), ROOM);
        for (int i = 0; i < 3; i++) {
            x.run(50);
        }
        due(x.about(2), 200);
        due(x.many(1, 3), 200);
        due(x.sum(1, 3), 199 * 200 / 2);
        due(x.feed(3, 200), ROOM);
    }

    private static void inputStays() {
        says("INPUT rows .. stand in a row, and stay");
        LooseMarks x = job(1, 1);
        x.mark();
        x.run(1);
        feed(x, 4, 4, 9);
        for (int again = 0; again < 3; again++) {
            due(x.about(1), 3);
            due(x.about(2), 0);
            turns(x, 0, 0, 3);
            due(x.turn(0, 0), 0);
            holds(x, 0, 0, 0, 4, 4, 9);
            due(x.value(0, 0, 0, 0), 4);
            due(x.value(0, 0, 0, 1), 104);
            due(x.value(0, 0, 0, 2), 209);
            x.run(3);
            due(x.about(1), 3);
            due(x.about(2), 3);
            due(x.restore(0, 1, 1, 1, 1), 0);
        }
        due(x.feed(0, 1), 3);
    }

    private static void manyAndSum() {
        says("Each stage has for each KEY how MANY rows it took, and the SUM of their VALUES");
        LooseMarks x = job(1, 1, 1, 1);
        feed(x, 0, 15, 15);
        turns(x, 0, 0, 3);
        turns(x, 1, 0, 2);
        turns(x, 2, 0, 1);
        int[] last = {2, 1, 0, 0};
        for (int stage = 0; stage < 4; stage++) {
            due(x.many(stage, 0), stage < 3 ? 1 : 0);
            due(x.many(stage, 15), last[stage]);
            due(x.sum(stage, 15), stage == 0 ? 115 + 215 : stage == 1 ? 115 : 0);
            for (int key = 1; key < 15; key++) {
                due(x.many(stage, key), 0);
                due(x.sum(stage, key), 0);
            }
        }
    }

    private static void firstOnesAreRead() {
        says("Of each KEY so many INPUT rows, the first ones, are READ as stage 0 took");
        LooseMarks x = job(2, 1);
        feed(x, 0, 1, 1, 0, 2, 1);
        turns(x, 0, 1, 2);
        due(x.about(2), 2);
        x.mark();
        turns(x, 1, 0, 2);
        due(x.marked(0, 0), WHOLE);
        turns(x, 0, 0, 3);
        turns(x, 0, 1, 1);
        due(x.about(2), 6);
        // Of KEY 1 two are READ, of 0 and 2 none: one task goes through what is left of the row.
        due(x.restore(0, 1, 1, 1, 1), 2);
        due(x.about(2), 2);
        int[] keys = {0, 0, 2, 1};
        long[] values = {0, 300, 402, 501};
        x.run(2);
        due(x.restore(0, 1, 1, 1, 1), 2);
        turns(x, 1, 0, 2);
        for (int i = 0; i < keys.length; i++) {
            due(x.turn(0, 0), 1);
            due(x.key(0, 0, 0, i), keys[i]);
            due(x.value(0, 0, 0, i), values[i]);
        }
        due(x.turn(0, 0), 0);
    }

    private static void firstToComeFirst() {
        says("A channel holds rows, the first to come first");
        LooseMarks x = job(1, 1);
        feed(x, 7, 3, 11);
        due(x.channel(0, 0, 0, 0), 0);
        turns(x, 0, 0, 3);
        holds(x, 0, 0, 0, 7, 3, 11);
        x.turn(1, 0);
        due(x.many(1, 7), 1);
        holds(x, 0, 0, 0, 3, 11);
        feed(x, 7);
        x.turn(0, 0);
        holds(x, 0, 0, 0, 3, 11, 7);
        turns(x, 1, 0, 3);
        holds(x, 0, 0, 0);
        // One that was empty is as a new one.
        feed(x, 2, 5);
        turns(x, 0, 0, 2);
        holds(x, 0, 0, 0, 2, 5);
    }

    private static void barrierAmongRows() {
        says("A channel holds .. perhaps one BARRIER, at a place among them");
        LooseMarks x = job(1, 1);
        x.bound(NONE);
        feed(x, 1, 2, 3, 4);
        due(x.channel(0, 0, 0, 1), NONE);
        turns(x, 0, 0, 2);
        due(x.channel(0, 0, 0, 1), NONE);
        x.mark();
        due(x.channel(0, 0, 0, 1), 2);
        turns(x, 0, 0, 2);
        due(x.channel(0, 0, 0, 1), 2);
        holds(x, 0, 0, 0, 1, 2, 3, 4);
        x.turn(1, 0);
        due(x.channel(0, 0, 0, 1), 1);
        holds(x, 0, 0, 0, 2, 3, 4);
        x.turn(1, 0);
        due(x.channel(0, 0, 0, 1), 0);
        holds(x, 0, 0, 0, 3, 4);
        due(x.turn(1, 0), 2);
        due(x.channel(0, 0, 0, 1), NONE);
        holds(x, 0, 0, 0, 3, 4);
    }

    private static void full() {
        says("It is FULL when it holds CAPACITY rows (1 .. 20)");
        for (int capacity = 1; capacity <= 20; capacity++) {
            LooseMarks x = job(1, 1);
            x.capacity(capacity);
            for (int i = 0; i < 22; i++) {
                x.feed(i % 16, i);
            }
            turns(x, 0, 0, capacity - 1);
            due(x.channel(0, 0, 0, 0), capacity - 1);
            due(x.turn(0, 0), 1);
            due(x.turn(0, 0), 0);
            due(x.channel(0, 0, 0, 0), capacity);
            // A BARRIER is no row: it makes nothing FULL, and is not stopped.
            x.mark();
            due(x.channel(0, 0, 0, 1), 0);
            due(x.turn(1, 0), 2);
            due(x.turn(0, 0), 0);
            due(x.turn(1, 0), 1);
            x.mark();
            due(x.turn(0, 0), 1);
            due(x.turn(0, 0), 0);
        }
    }

    private static void fullOrMore() {
        says("It is FULL when it holds CAPACITY rows or more");
        LooseMarks x = job(1, 1);
        feed(x, 0, 0, 0, 0, 0);
        turns(x, 0, 0, 4);
        x.capacity(2);
        due(x.channel(0, 0, 0, 0), 4);
        int[] left = {4, 3, 2};
        for (int rows : left) {
            due(x.channel(0, 0, 0, 0), rows);
            due(x.turn(0, 0), 0);
            due(x.turn(1, 0), 1);
        }
        due(x.turn(0, 0), 1);
    }

    private static void fiveAtFirst() {
        says("CAPACITY .. (.. 5 at first)");
        LooseMarks x = job(1, 1);
        due(x.about(7), 5);
        feed(x, 0, 0, 0, 0, 0, 0);
        for (int i = 0; i < 5; i++) {
            due(x.turn(0, 0), 1);
        }
        due(x.turn(0, 0), 0);
    }

    private static void callsUpTo512() {
        says("An object is used for at most 512 calls after it has been made");
        LooseMarks x = new LooseMarks(4);
        for (int stage = 0; stage < 4; stage++) {
            x.wide(stage, 4);
        }
        for (int i = 0; i < 200; i++) {
            x.feed(i % 16, 1L << (i % 60));
        }
        for (int i = 0; i < 8; i++) {
            x.run(1);
            x.mark();
            x.run(50);
        }
        for (int i = 0; i < 280; i++) {
            x.run(50);
        }
        due(x.about(3), 16 * (8 * 51 + 280 * 50));
        due(x.marked(7, 0), WHOLE);
        due(x.restore(0, 1, 2, 3, 4) >= 0 ? 1 : 0, 1);
        due(x.audit(), 0);
    }
}
