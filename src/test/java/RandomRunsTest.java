import java.util.Random;

/** Random runs of calls, the same ones each time, on the class and on the plain model. */
public final class RandomRunsTest {
    private static final int RUNS = 1500;
    private static final int CALLS = 160;
    private static int wrong = 0;
    private static int whole = 0, failed = 0, givenUp = 0, restored = 0, byBound = 0, looseAndWhole = 0;

    private final LooseMarks x;
    private final PlainModel m;
    private final Random random;
    private final int run;
    private String call = "new";

    private RandomRunsTest(int run) {
        this.run = run;
        random = new Random(run);
        int stages = random.nextInt(10) - 2;
        x = new LooseMarks(stages);
        m = new PlainModel(stages);
    }

    private void same(String asked, long got, long want) {
        if (got != want) {
            wrong++;
            if (wrong <= 20) {
                System.out.println("run " + run + ", after " + call + ": " + asked
                        + " answered " + got + ", due is " + want);
            }
        }
    }

    private int any(int low, int high) {
        return low + random.nextInt(high - low + 1);
    }

    /** Mostly a good number, now and then one just outside. */
    private int near(int low, int high) {
        return random.nextInt(12) == 0 ? any(low - 1, high + 1) : any(low, high);
    }

    private void settings() {
        for (int stage = 0; stage < 4; stage++) {
            int tasks = near(1, 4);
            call = "wide(" + stage + ", " + tasks + ")";
            same(call, x.wide(stage, tasks), m.wide(stage, tasks));
        }
        int rows = near(1, 20);
        if (random.nextBoolean()) {
            call = "capacity(" + rows + ")";
            same(call, x.capacity(rows), m.capacity(rows));
        }
        oneBound();
    }

    private void oneBound() {
        int[] some = {-1, 0, 0, 1, 1, 2, 3, 4, 6, 8, 20, 60, 1000, 1001, -2};
        int turns = some[random.nextInt(some.length)];
        call = "bound(" + turns + ")";
        same(call, x.bound(turns), m.bound(turns));
    }

    private void oneTurn() {
        int stage = near(0, m.s - 1);
        int task = near(0, 3);
        call = "turn(" + stage + ", " + task + ")";
        int due = m.turn(stage, task);
        same(call, x.turn(stage, task), due);
        byBound += due == 3 ? 1 : 0;
    }

    private void oneCall() {
        int kind = random.nextInt(100);
        if (kind < 15) {
            int key = near(0, 15);
            long value = random.nextLong();
            call = "feed(" + key + ", " + value + ")";
            same(call, x.feed(key, value), m.feed(key, value));
        } else if (kind < 70) {
            oneTurn();
        } else if (kind < 82) {
            int rounds = near(1, random.nextInt(4) == 0 ? 50 : 3);
            call = "run(" + rounds + ")";
            same(call, x.run(rounds), m.run(rounds));
        } else if (kind < 88) {
            call = "mark()";
            same(call, x.mark(), m.mark());
        } else if (kind < 89) {
            call = "giveUp()";
            same(call, x.giveUp(), m.giveUp());
        } else if (kind < 92) {
            int mark = near(0, Math.max(0, m.saved.size() - 1));
            int p0 = near(1, 4), p1 = near(1, 4), p2 = near(1, 4), p3 = near(1, 4);
            call = "restore(" + mark + ", " + p0 + ", " + p1 + ", " + p2 + ", " + p3 + ")";
            int due = m.restore(mark, p0, p1, p2, p3);
            same(call, x.restore(mark, p0, p1, p2, p3), due);
            restored += due >= 0 ? 1 : 0;
        } else if (kind < 94) {
            int rows = random.nextBoolean() ? near(0, 200) : any(0, 12);
            call = "limit(" + rows + ")";
            same(call, x.limit(rows), m.limit(rows));
        } else if (kind < 96) {
            oneBound();
        } else if (kind < 98) {
            int rows = near(1, 20);
            call = "capacity(" + rows + ")";
            same(call, x.capacity(rows), m.capacity(rows));
        } else {
            int stage = near(0, 3), tasks = near(1, 4);
            call = "wide(" + stage + ", " + tasks + ")";
            same(call, x.wide(stage, tasks), m.wide(stage, tasks));
        }
    }

    private void compareJob() {
        for (int what = -1; what < 15; what++) {
            same("about(" + what + ")", x.about(what), m.about(what));
        }
        for (int stage = -1; stage < 5; stage++) {
            for (int key = -1; key < 17; key++) {
                same("many(" + stage + ", " + key + ")", x.many(stage, key), m.many(stage, key));
                same("sum(" + stage + ", " + key + ")", x.sum(stage, key), m.sum(stage, key));
            }
            for (int task = -1; task < 5; task++) {
                for (int what = -1; what < 5; what++) {
                    same("task(" + stage + ", " + task + ", " + what + ")",
                            x.task(stage, task, what), m.task(stage, task, what));
                }
            }
        }
        same("audit()", x.audit(), m.audit());
    }

    private void compareChannels() {
        for (int n = 0; n < 5 * 6 * 6; n++) {
            int gap = n / 36 - 1, from = n / 6 % 6 - 1, to = n % 6 - 1;
            String at = gap + ", " + from + ", " + to + ", ";
            for (int what = -1; what < 5; what++) {
                same("channel(" + at + what + ")", x.channel(gap, from, to, what), m.channel(gap, from, to, what));
            }
            int last = Math.max(0, m.channel(gap, from, to, 0));
            for (int i = -1; i <= last; i++) {
                same("key(" + at + i + ")", x.key(gap, from, to, i), m.key(gap, from, to, i));
                same("value(" + at + i + ")", x.value(gap, from, to, i), m.value(gap, from, to, i));
            }
        }
    }

    private void compareMark(int mark) {
        for (int what = -1; what < 15; what++) {
            same("marked(" + mark + ", " + what + ")", x.marked(mark, what), m.marked(mark, what));
        }
        for (int n = 0; n < 6 * 18; n++) {
            int stage = n / 18 - 1, key = n % 18 - 1;
            String at = "(" + mark + ", " + stage + ", " + key + ")";
            same("keptMany" + at, x.keptMany(mark, stage, key), m.keptMany(mark, stage, key));
            same("keptSum" + at, x.keptSum(mark, stage, key), m.keptSum(mark, stage, key));
        }
        for (int n = 0; n < 5 * 6 * 6; n++) {
            int gap = n / 36 - 1, from = n / 6 % 6 - 1, to = n % 6 - 1;
            String at = mark + ", " + gap + ", " + from + ", " + to;
            int due = m.kept(mark, gap, from, to);
            same("kept(" + at + ")", x.kept(mark, gap, from, to), due);
            for (int i = -1; i <= Math.max(0, due); i++) {
                same("keptKey(" + at + ", " + i + ")",
                        x.keptKey(mark, gap, from, to, i), m.keptKey(mark, gap, from, to, i));
                same("keptValue(" + at + ", " + i + ")",
                        x.keptValue(mark, gap, from, to, i), m.keptValue(mark, gap, from, to, i));
            }
        }
    }

    private void go() {
        settings();
        for (int n = 0; n < CALLS; n++) {
            oneCall();
            if (n % 8 == 0) {
                compareJob();
                compareChannels();
                compareMark(any(-1, m.saved.size()));
            }
        }
        for (int mark = -1; mark <= m.saved.size(); mark++) {
            compareMark(mark);
            whole += m.marked(mark, 0) == 1 ? 1 : 0;
            failed += m.marked(mark, 0) == 2 ? 1 : 0;
            givenUp += m.marked(mark, 0) == 3 ? 1 : 0;
            looseAndWhole += m.marked(mark, 0) == 1 && m.marked(mark, 1) > 0 ? 1 : 0;
        }
    }

    public static void main(String[] args) {
        for (int run = 0; run < RUNS && wrong == 0; run++) {
            new RandomRunsTest(run).go();
        }
        System.out.println(whole + " marks whole (" + looseAndWhole + " with rows kept), " + failed + " failed, "
                + givenUp + " given up, " + restored + " restored, " + byBound + " took part by bound");
        boolean rich = whole > 500 && looseAndWhole > 200 && failed > 100 && givenUp > 50 && restored > 200
                && byBound > 50;
        System.out.println(wrong == 0 ? "all answers are as due" : wrong + " answers are not as due");
        if (wrong != 0 || !rich) {
            System.exit(1);
        }
    }
}
