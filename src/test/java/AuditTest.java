import java.lang.reflect.Array;
import java.lang.reflect.Field;

/**
 * audit() is always 0, so no run of calls shows that it counts at all. Here the state is spoilt by
 * force, one thing at a time, and it must tell. Bound to the fields of the class as they are.
 */
public final class AuditTest extends Sentences {
    public static void main(String[] args) throws ReflectiveOperationException {
        gaps();
        inputOfStage0();
        marks();
        stray();
        end();
    }

    /** Rows in both gaps and through them, two WHOLE marks and between them one that was given up. */
    private static LooseMarks job() {
        LooseMarks x = job(2, 2, 2);
        x.mark();
        x.run(2);
        due(x.marked(0, 0), WHOLE);
        feed(x, 0, 1, 2, 3, 0, 1, 15, 15);
        turns(x, 0, 0, 3);
        turns(x, 0, 1, 3);
        turns(x, 1, 0, 2);
        turns(x, 1, 1, 1);
        turns(x, 2, 0, 1);
        x.mark();
        x.giveUp();
        x.mark();
        turns(x, 1, 0, 2);
        turns(x, 1, 1, 2);
        turns(x, 2, 0, 2);
        turns(x, 2, 1, 2);
        due(x.marked(1, 0), GIVEN_UP);
        due(x.marked(2, 0), WHOLE);
        due(x.about(6), 5);
        due(x.audit(), 0);
        return x;
    }

    private static Object field(Object of, String name) throws ReflectiveOperationException {
        Field field = of.getClass().getDeclaredField(name);
        field.setAccessible(true);
        return field.get(of);
    }

    private static void add(Object tally, int stage, int key, int rows, long total)
            throws ReflectiveOperationException {
        int[] many = (int[]) field(tally, "rows");
        long[] sums = (long[]) field(tally, "totals");
        many[stage * 16 + key] += rows;
        sums[stage * 16 + key] += total;
    }

    private static void gaps() throws ReflectiveOperationException {
        says("25: of each KEY and gap, MANY and SUM of the stage before are those of the stage behind and of the"
                + " rows of this KEY in the gap's channels, together");
        int[] keys = {0, 1, 15};
        for (int key : keys) {
            LooseMarks x = job();
            // Stage 1 stands at both gaps, stage 2 at one.
            add(field(x, "tally"), 1, key, 1, 0);
            due(x.audit(), 2);
            add(field(x, "tally"), 1, key, -1, 7);
            due(x.audit(), 2);
            add(field(x, "tally"), 1, key, 0, -7);
            due(x.audit(), 0);
            add(field(x, "tally"), 2, key, 0, Long.MIN_VALUE);
            due(x.audit(), 1);
            add(field(x, "tally"), 2, (key + 1) % 16, -1, 0);
            due(x.audit(), 2);
        }
    }

    private static void inputOfStage0() throws ReflectiveOperationException {
        says("25: MANY and SUM of stage 0 are those of the first so many INPUT rows of the KEY");
        LooseMarks x = job();
        for (int stage = 0; stage < 3; stage++) {
            add(field(x, "tally"), stage, 5, 0, 1);
        }
        due(x.audit(), 1);
        for (int stage = 0; stage < 3; stage++) {
            add(field(x, "tally"), stage, 6, 1, 0);
        }
        due(x.audit(), 2);
    }

    private static void marks() throws ReflectiveOperationException {
        says("25: so in each WHOLE mark, with the rows KEPT");
        LooseMarks x = job();
        Object givenUp = Array.get(field(x, "marks"), 1);
        add(field(givenUp, "tally"), 1, 0, 1, 1);
        due(x.audit(), 0);
        Object first = Array.get(field(x, "marks"), 0);
        add(field(first, "tally"), 2, 9, -1, 0);
        due(x.audit(), 1);
        add(field(first, "tally"), 2, 9, 1, 0);
        Object whole = Array.get(field(x, "marks"), 2);
        add(field(whole, "tally"), 1, 0, 1, 1);
        due(x.audit(), 2);
        add(field(whole, "tally"), 1, 0, -1, -1);
        add(field(whole, "tally"), 2, 15, 0, 1);
        due(x.audit(), 1);
        int[] keptFor = (int[]) field(whole, "keptFor");
        // A row of gap 0 as if it were one of gap 1: both gaps are wrong for its KEY.
        due(keptFor[0] < 16 ? 1 : 0, 1);
        keptFor[0] += 16;
        due(x.audit(), 3);
    }

    private static void stray() throws ReflectiveOperationException {
        says("25: rows lie in the channels of their KEY's owners");
        LooseMarks x = job();
        int[] widths = (int[]) field(x, "width");
        int rows = x.channel(0, 1, 1, 0) + x.channel(1, 1, 1, 0);
        due(rows > 0 ? 1 : 0, 1);
        // With one task in each stage those with odd KEYS lie where they do not belong.
        for (int stage = 0; stage < 3; stage++) {
            widths[stage] = 1;
        }
        due(x.audit(), rows);
        // With two in each, two of the four in the one channel.
        LooseMarks y = job(1, 1);
        feed(y, 0, 1, 3, 2);
        turns(y, 0, 0, 4);
        due(y.audit(), 0);
        int[] one = (int[]) field(y, "width");
        one[0] = 2;
        one[1] = 2;
        due(y.audit(), 2);
    }
}
