/** The sentences of part 2, A TURN, that name a boundary: one test for each. */
public final class TurnBoundsTest extends Sentences {
    public static void main(String[] args) {
        turnsAreCounted();
        firstRowOfItsOwn();
        firstRowAlone();
        barrierOfTheFirstChannel();
        barrierAtTheFront();
        barrierBeforeBound();
        byBound();
        boundOfOne();
        boundOf1000();
        boundOfNone();
        firstBarrierCounts();
        refusedTurnsAreNone();
        boundBeforeRows();
        onlyWhoWaits();
        goingRound();
        fromChannel0AtFirst();
        emptyChannels();
        shutChannels();
        fullWays();
        onlyTheRowAtTheFront();
        lastStage();
        behindWhatIsThere();
        end();
    }

    private static void turnsAreCounted() {
        says("TURNS are counted, whatever they do");
        LooseMarks x = job(2, 1);
        x.bound(1);
        due(x.turn(1, 0), 0);
        due(x.about(3), 1);
        feed(x, 1);
        due(x.turn(0, 1), 1);
        due(x.about(3), 2);
        x.mark();
        due(x.about(3), 2);
        due(x.turn(1, 0), 2);
        due(x.about(3), 3);
        due(x.turn(1, 0), 3);
        due(x.about(3), 4);
        due(x.run(3), 2);
        due(x.about(3), 4 + 3 * 3);
        due(x.turn(0, 2), UNKNOWN);
        due(x.run(0), OUTSIDE);
        due(x.run(51), OUTSIDE);
        due(x.about(3), 13);
    }

    private static void firstRowOfItsOwn() {
        says("Of stage 0: the first INPUT row that is not READ and has a KEY of its own is taken");
        LooseMarks x = job(3, 1);
        // No row at all, then none of its own, then one behind those of others.
        due(x.turn(0, 2), 0);
        feed(x, 0, 1, 3, 4);
        due(x.turn(0, 2), 0);
        feed(x, 5, 2);
        due(x.turn(0, 2), 1);
        holds(x, 0, 2, 0, 5);
        due(x.turn(0, 2), 1);
        holds(x, 0, 2, 0, 5, 2);
        due(x.turn(0, 2), 0);
        due(x.turn(0, 0), 1);
        due(x.turn(0, 0), 1);
        holds(x, 0, 0, 0, 0, 3);
        due(x.turn(0, 0), 0);
        due(x.about(2), 4);
    }

    private static void firstRowAlone() {
        says("is taken, if the channel to which it would go is not FULL");
        LooseMarks x = job(1, 2);
        x.capacity(1);
        feed(x, 0, 2, 1);
        due(x.turn(0, 0), 1);
        // Row 2 could go, but row 1 stands before it.
        due(x.turn(0, 0), 0);
        due(x.many(0, 2), 0);
        due(x.sum(0, 2), 0);
        due(x.many(0, 1), 0);
        due(x.about(2), 1);
        due(x.turn(1, 0), 1);
        due(x.turn(0, 0), 1);
        due(x.turn(0, 0), 1);
        holds(x, 0, 0, 0, 2);
        holds(x, 0, 0, 1, 1);
    }

    private static void barrierOfTheFirstChannel() {
        says("(1) of the channels that lead to it, in order, the first one with the BARRIER at its front: it is"
                + " taken off");
        LooseMarks x = job(4, 1);
        feed(x, 0, 1);
        turns(x, 0, 0, 1);
        turns(x, 0, 1, 1);
        turns(x, 1, 0, 2);
        // It would look for rows from channel 2 on, but for barriers from channel 0.
        due(x.task(1, 0, 3), 2);
        x.bound(NONE);
        x.mark();
        for (int from = 0; from < 4; from++) {
            due(x.channel(0, from, 0, 1), 0);
            due(x.turn(1, 0), 2);
            due(x.channel(0, from, 0, 1), NONE);
            due(x.about(5), from < 3 ? 0 : NONE);
            due(x.channel(0, from, 0, 2), from < 3 ? 1 : 0);
            due(x.task(1, 0, 3), 2);
        }
    }

    private static void barrierAtTheFront() {
        says("the first one with the BARRIER at its front");
        LooseMarks x = job(3, 1);
        x.bound(NONE);
        feed(x, 0, 1, 3);
        turns(x, 0, 0, 1);
        turns(x, 0, 1, 1);
        x.mark();
        turns(x, 0, 0, 1);
        // Channels 0 and 1 have a row before it: that of channel 2 goes first, before any row.
        due(x.turn(1, 0), 2);
        due(x.channel(0, 2, 0, 2), 1);
        due(x.channel(0, 0, 0, 1), 1);
        due(x.channel(0, 1, 0, 1), 1);
        due(x.turn(1, 0), 1);
        due(x.many(1, 0), 1);
        due(x.channel(0, 0, 0, 1), 0);
        due(x.turn(1, 0), 2);
        due(x.channel(0, 0, 0, 2), 1);
        due(x.channel(0, 1, 0, 2), 0);
    }

    private static void barrierBeforeBound() {
        says("the first of these that can be: (1) .. (2)");
        LooseMarks x = job(2, 1);
        x.bound(1);
        x.mark();
        due(x.turn(1, 0), 2);
        turns(x, 0, 0, 5);
        due(x.task(1, 0, 1), 1);
        due(x.turn(1, 0), 2);
        due(x.marked(0, 0), WHOLE);
    }

    /** A task that waits, with so many rows before the barrier in its channel 1. */
    private static LooseMarks waiting(int bound, int rows) {
        LooseMarks x = job(2, 1);
        x.bound(bound);
        for (int i = 0; i < rows; i++) {
            x.feed(1, i);
        }
        turns(x, 0, 1, rows);
        x.mark();
        due(x.turn(1, 0), 2);
        due(x.task(1, 0, 1), 1);
        return x;
    }

    private static void byBound() {
        says("at least BOUND turns of all tasks were made since its first BARRIER came (that turn not counted,"
                + " this one counted)");
        for (int bound = 1; bound <= 12; bound++) {
            // Turns of others.
            LooseMarks x = waiting(bound, 1);
            turns(x, 0, 0, bound - 1);
            due(x.task(1, 0, 0), 0);
            due(x.turn(1, 0), 3);
            due(x.task(1, 0, 0), 1);
            due(x.task(1, 0, 1), 0);
            // More than that, as well.
            LooseMarks y = waiting(bound, 1);
            turns(y, 0, 1, bound + 3);
            due(y.turn(1, 0), 3);
            // One fewer.
            if (bound > 1) {
                LooseMarks z = waiting(bound, 1);
                turns(z, 0, 0, bound - 2);
                due(z.turn(1, 0), 1);
                due(z.task(1, 0, 1), 1);
            }
        }
        // Its own turns count too.
        LooseMarks x = waiting(4, 5);
        due(x.turn(1, 0), 1);
        due(x.turn(1, 0), 1);
        due(x.turn(1, 0), 1);
        due(x.turn(1, 0), 3);
        due(x.turn(1, 0), 1);
    }

    private static void boundOfOne() {
        says("BOUND (.. 1 ..): the very next turn");
        LooseMarks x = waiting(1, 2);
        due(x.turn(1, 0), 3);
        due(x.kept(0, 0, 1, 0), 0);
        due(x.turn(1, 0), 1);
        due(x.kept(0, 0, 1, 0), 1);
    }

    /** Task 1 of stage 1 waits, with 60 rows before the barrier in one of its channels; 16 tasks. */
    private static LooseMarks longWait(int bound) {
        LooseMarks x = job(4, 3, 4, 4);
        x.capacity(20);
        int[] keys = {1, 5, 9};
        for (int i = 0; i < 60; i++) {
            x.feed(keys[i % 3], i);
        }
        turns(x, 0, 1, 60);
        x.mark();
        x.run(4);
        due(x.marked(0, 0), WHOLE);
        due(x.restore(0, 4, 4, 4, 4), 60);
        due(x.channel(0, 1, 1, 0), 60);
        x.bound(bound);
        x.mark();
        due(x.channel(0, 1, 1, 1), 60);
        due(x.turn(1, 1), 2);
        // Two more barriers come, then 59 of the rows before the last one.
        x.run(50);
        x.run(11);
        due(x.channel(0, 1, 1, 1), 1);
        due(x.task(1, 1, 1), 1);
        due(x.task(1, 1, 2), 3);
        return x;
    }

    private static void boundOf1000() {
        says("at least BOUND turns (BOUND 1000)");
        LooseMarks x = longWait(1000);
        turns(x, 0, 0, 999 - 61 * 16);
        due(x.turn(1, 1), 3);
        due(x.task(1, 1, 0), 1);
        LooseMarks y = longWait(1000);
        turns(y, 0, 0, 998 - 61 * 16);
        due(y.turn(1, 1), 1);
        due(y.task(1, 1, 0), 0);
    }

    private static void boundOfNone() {
        says("BOUND is not NONE");
        LooseMarks x = longWait(NONE);
        turns(x, 0, 0, 200);
        due(x.task(1, 1, 1), 1);
        due(x.turn(1, 1), 1);
        due(x.task(1, 1, 1), 1);
        due(x.turn(1, 1), 2);
        due(x.task(1, 1, 0), 1);
        due(x.marked(1, 1), 0);
    }

    private static void firstBarrierCounts() {
        says("since its first BARRIER came");
        LooseMarks x = job(4, 1);
        x.bound(3);
        feed(x, 3);
        turns(x, 0, 3, 1);
        x.mark();
        due(x.turn(1, 0), 2);
        due(x.turn(1, 0), 2);
        due(x.turn(1, 0), 2);
        due(x.task(1, 0, 2), 3);
        due(x.turn(1, 0), 3);
        // A later mark counts anew.
        x.run(4);
        due(x.marked(0, 0), WHOLE);
        feed(x, 3);
        turns(x, 0, 3, 1);
        x.mark();
        due(x.turn(1, 0), 2);
        due(x.turn(1, 0), 2);
        due(x.turn(1, 0), 2);
        due(x.turn(1, 0), 3);
        // And one behind a mark that was given up in the midst of it.
        x.giveUp();
        x.mark();
        turns(x, 0, 0, 9);
        due(x.turn(1, 0), 2);
        due(x.turn(1, 0), 2);
        due(x.turn(1, 0), 2);
        due(x.task(1, 0, 1), 1);
        due(x.turn(1, 0), 3);
    }

    private static void refusedTurnsAreNone() {
        says("turns of all tasks were made: what is refused is none");
        LooseMarks x = waiting(2, 2);
        for (int i = 0; i < 5; i++) {
            due(x.turn(0, 2), UNKNOWN);
            due(x.turn(2, 0), UNKNOWN);
            due(x.run(51), OUTSIDE);
        }
        due(x.turn(1, 0), 1);
        due(x.turn(1, 0), 3);
    }

    private static void boundBeforeRows() {
        says("the first of these that can be: (2) .. (3)");
        LooseMarks x = waiting(2, 3);
        due(x.turn(1, 0), 1);
        due(x.turn(1, 0), 3);
        due(x.many(1, 1), 1);
        due(x.channel(0, 1, 0, 0), 2);
        due(x.task(1, 0, 3), 0);
        due(x.turn(1, 0), 1);
    }

    private static void onlyWhoWaits() {
        says("(2) It WAITS");
        LooseMarks x = job(2, 1);
        x.bound(1);
        feed(x, 0, 0, 1, 1);
        turns(x, 0, 0, 2);
        turns(x, 0, 1, 2);
        x.mark();
        turns(x, 0, 0, 9);
        // No barrier came yet, so rows are taken however many turns were made.
        due(x.turn(1, 0), 1);
        due(x.turn(1, 0), 1);
        due(x.turn(1, 0), 1);
        due(x.task(1, 0, 1), 0);
        due(x.turn(1, 0), 2);
        due(x.task(1, 0, 1), 1);
        due(x.turn(1, 0), 3);
        // Once it took part it does not do so again.
        LooseMarks y = waiting(1, 3);
        due(y.turn(1, 0), 3);
        due(y.turn(1, 0), 1);
        due(y.turn(1, 0), 1);
        due(y.turn(1, 0), 1);
        due(y.turn(1, 0), 2);
        due(y.turn(1, 0), 0);
    }

    private static void goingRound() {
        says("going round from the one behind that from which it took the latest");
        LooseMarks x = job(4, 1);
        feed(x, 0, 1, 2, 3, 0, 1, 2, 3, 1, 1);
        turns(x, 0, 0, 2);
        turns(x, 0, 1, 4);
        turns(x, 0, 2, 2);
        turns(x, 0, 3, 2);
        int[] takes = {0, 1, 2, 3, 0, 1, 2, 3, 1, 1};
        int[] next = {1, 2, 3, 0, 1, 2, 3, 0, 2, 2};
        int[] took = new int[4];
        for (int i = 0; i < takes.length; i++) {
            due(x.turn(1, 0), 1);
            took[takes[i]]++;
            for (int key = 0; key < 4; key++) {
                due(x.many(1, key), took[key]);
            }
            due(x.task(1, 0, 3), next[i]);
        }
        // Nothing to take moves nothing.
        due(x.turn(1, 0), 0);
        due(x.task(1, 0, 3), 2);
        // From 2 on, round the end, to 0 before 1.
        feed(x, 1, 0);
        turns(x, 0, 0, 1);
        turns(x, 0, 1, 1);
        due(x.turn(1, 0), 1);
        due(x.many(1, 0), 3);
        due(x.task(1, 0, 3), 1);
    }

    private static void fromChannel0AtFirst() {
        says("(from channel 0 at first)");
        LooseMarks x = job(4, 4, 4);
        for (int task = 0; task < 4; task++) {
            due(x.task(1, task, 3), 0);
            due(x.task(2, task, 3), 0);
        }
        LooseMarks y = job(2, 1);
        feed(y, 1, 0);
        turns(y, 0, 1, 1);
        turns(y, 0, 0, 1);
        due(y.turn(1, 0), 1);
        due(y.many(1, 0), 1);
        due(y.many(1, 1), 0);
    }

    private static void emptyChannels() {
        says("that has a row at its front");
        LooseMarks x = job(4, 1);
        due(x.turn(1, 0), 0);
        due(x.task(1, 0, 3), 0);
        feed(x, 2, 2);
        turns(x, 0, 2, 2);
        due(x.turn(1, 0), 1);
        due(x.task(1, 0, 3), 3);
        due(x.turn(1, 0), 1);
        due(x.task(1, 0, 3), 3);
        due(x.turn(1, 0), 0);
        due(x.task(1, 0, 3), 3);
    }

    private static void shutChannels() {
        says("is not SHUT");
        LooseMarks x = job(1, 2, 1);
        x.bound(NONE);
        x.mark();
        due(x.turn(1, 0), 2);
        feed(x, 0, 1);
        turns(x, 0, 0, 1);
        due(x.turn(1, 0), 1);
        due(x.turn(2, 0), 2);
        due(x.channel(1, 0, 0, 3), 1);
        due(x.channel(1, 0, 0, 0), 1);
        // All that there is lies in a shut channel.
        due(x.turn(2, 0), 0);
        due(x.many(2, 0), 0);
        due(x.turn(1, 1), 2);
        due(x.turn(2, 0), 2);
        due(x.turn(2, 0), 1);
        due(x.many(2, 0), 1);
        // A channel that is not shut goes before one that is, out of turn.
        LooseMarks y = job(2, 1);
        y.bound(NONE);
        feed(y, 1, 0);
        turns(y, 0, 1, 1);
        y.mark();
        turns(y, 0, 0, 1);
        due(y.turn(1, 0), 2);
        due(y.task(1, 0, 3), 0);
        due(y.turn(1, 0), 1);
        due(y.many(1, 1), 1);
        due(y.many(1, 0), 0);
    }

    private static void fullWays() {
        says("and whose row would go on into a channel that is not FULL");
        LooseMarks x = job(2, 1, 4);
        x.capacity(1);
        feed(x, 0, 4, 1, 3);
        turns(x, 0, 0, 1);
        due(x.turn(1, 0), 1);
        turns(x, 0, 0, 1);
        turns(x, 0, 1, 1);
        due(x.turn(1, 0), 1);
        turns(x, 0, 1, 1);
        due(x.task(1, 0, 3), 0);
        // KEY 4 would go where KEY 0 lies; KEY 3 has its way free.
        due(x.turn(1, 0), 1);
        due(x.many(1, 3), 1);
        due(x.many(1, 4), 0);
        due(x.task(1, 0, 3), 0);
        due(x.turn(1, 0), 0);
        due(x.channel(0, 0, 0, 0), 1);
        due(x.turn(2, 0), 1);
        due(x.turn(1, 0), 1);
        due(x.many(1, 4), 1);
        due(x.task(1, 0, 3), 1);
    }

    private static void onlyTheRowAtTheFront() {
        says("has a row at its front .. and whose row would go on");
        LooseMarks x = job(1, 1, 2);
        x.capacity(2);
        feed(x, 0, 0, 0, 1);
        turns(x, 0, 0, 2);
        turns(x, 1, 0, 2);
        turns(x, 0, 0, 2);
        holds(x, 0, 0, 0, 0, 1);
        due(x.turn(1, 0), 0);
        holds(x, 0, 0, 0, 0, 1);
        due(x.turn(2, 0), 1);
        due(x.turn(1, 0), 1);
        due(x.turn(1, 0), 1);
    }

    private static void lastStage() {
        says("(in the last stage rows go nowhere)");
        for (int stages = 2; stages <= 4; stages++) {
            LooseMarks x = new LooseMarks(stages);
            x.capacity(1);
            for (int i = 0; i < 9; i++) {
                x.feed(0, 1);
                for (int stage = 0; stage < stages; stage++) {
                    due(x.turn(stage, 0), 1);
                }
                due(x.about(6), 0);
            }
            due(x.many(stages - 1, 0), 9);
            due(x.turn(stages - 1, 0), 0);
        }
    }

    private static void behindWhatIsThere() {
        says("MANY and SUM, then it goes on behind what is there");
        LooseMarks x = job(1, 1, 1);
        x.bound(NONE);
        feed(x, 6, 9);
        turns(x, 0, 0, 1);
        due(x.turn(1, 0), 1);
        due(x.many(1, 6), 1);
        due(x.sum(1, 6), 6);
        x.mark();
        due(x.turn(1, 0), 2);
        turns(x, 0, 0, 1);
        due(x.turn(1, 0), 1);
        due(x.sum(1, 9), 109);
        holds(x, 1, 0, 0, 6, 9);
        // Behind the barrier, which stands behind the row that was there.
        due(x.channel(1, 0, 0, 1), 1);
        due(x.turn(2, 0), 1);
        due(x.turn(2, 0), 2);
        due(x.keptMany(0, 2, 6), 1);
        due(x.keptMany(0, 2, 9), 0);
    }
}
