/** Every method with far-off numbers, in several states: no call may throw, refusals change nothing. */
public final class HarshTest {
    private static final int[] ODD = {Integer.MIN_VALUE, Integer.MIN_VALUE + 1, -1000, -105, -2, -1, 0, 1, 2, 3, 4,
        5, 9, 10, 13, 14, 15, 16, 17, 47, 48, 199, 200, 201, 1000, 1001, Integer.MAX_VALUE - 10,
        Integer.MAX_VALUE - 1, Integer.MAX_VALUE};
    private static int wrong = 0;
    private static long calls = 0;

    private static void refused(String call, long got, boolean due) {
        calls++;
        boolean is = got <= LooseMarks.UNKNOWN && got >= LooseMarks.ROOM;
        if (is != due) {
            wrong++;
            System.out.println(call + " answered " + got);
        }
    }

    private static boolean in(int number, int low, int high) {
        return number >= low && number <= high;
    }

    /** Three stages with 2, 3 and 1 tasks; a whole mark, and one under way if so told. */
    private static LooseMarks job(boolean underWay) {
        LooseMarks x = new LooseMarks(3);
        x.wide(0, 2);
        x.wide(1, 3);
        for (int i = 0; i < 40; i++) {
            x.feed(i % 16, i);
        }
        x.run(3);
        x.mark();
        x.run(12);
        if (underWay) {
            x.bound(30);
            x.mark();
            x.run(1);
        }
        return x;
    }

    private static long fingerprint(LooseMarks x) {
        long print = 0;
        for (int what = 0; what < 13; what++) {
            print = print * 31 + x.about(what);
        }
        for (int n = 0; n < 48; n++) {
            print = print * 31 + x.sum(n / 16, n % 16) + x.many(n / 16, n % 16);
            print = print * 31 + x.channel(n / 16, n / 4 % 4, n % 4, 0) + x.channel(n / 16, n / 4 % 4, n % 4, 1);
            print = print * 31 + x.kept(0, n / 16, n / 4 % 4, n % 4) + x.kept(1, n / 16, n / 4 % 4, n % 4);
            print = print * 31 + x.keptSum(0, n / 16, n % 16) + x.marked(0, n % 13) + x.marked(1, n % 13);
            print = print * 31 + x.task(n / 16, n / 4 % 4, n % 4);
        }
        return print;
    }

    private static void unchanged(LooseMarks x, long before, String after) {
        if (fingerprint(x) != before) {
            wrong++;
            System.out.println(after + " was refused and changed something");
        }
    }

    private static void oneNumber(LooseMarks x, boolean underWay) {
        int marks = underWay ? 2 : 1;
        long before = fingerprint(x);
        for (int a : ODD) {
            refused("about " + a, x.about(a), !in(a, 0, 12));
            if (!in(a, 1, 20)) refused("capacity " + a, x.capacity(a), true);
            if (!in(a, -1, 1000) || underWay) refused("bound " + a, x.bound(a), true);
            if (!in(a, 0, 200)) refused("limit " + a, x.limit(a), true);
            if (!in(a, 1, 50)) refused("run " + a, x.run(a), true);
            if (!in(a, 0, 15)) refused("feed " + a, x.feed(a, a), true);
            if (a != 0) refused("restore " + a, x.restore(a, 1, 1, 1, 1), true);
            if (!in(a, 1, 4)) {
                refused("restore p0 " + a, x.restore(0, a, 1, 1, a), true);
                refused("restore p1 " + a, x.restore(0, 1, a, 1, a), true);
                refused("restore p2 " + a, x.restore(0, 1, 1, a, a), true);
            }
            for (int b : ODD) {
                refused("wide", x.wide(a, b), true);
                refused("many " + a + " " + b, x.many(a, b), !in(a, 0, 2) || !in(b, 0, 15));
                boolean known = in(a, 0, marks - 1);
                refused("marked " + a + " " + b, x.marked(a, b), !known || !in(b, 0, 3) && !in(b, 10, 12));
                if (!in(a, 0, 2) || !in(b, 0, 0) && a == 2 || !in(b, 0, 2)) {
                    refused("turn " + a + " " + b, x.turn(a, b), true);
                }
                x.sum(a, b);
            }
        }
        unchanged(x, before, "one of the calls with one or two numbers");
    }

    private static void manyNumbers(LooseMarks x) {
        long before = fingerprint(x);
        for (int a : ODD) {
            for (int b : ODD) {
                for (int c : ODD) {
                    x.task(a, b, c);
                    x.keptMany(a, b, c);
                    x.keptSum(a, b, c);
                    for (int d : ODD) {
                        x.channel(a, b, c, d);
                        x.key(a, b, c, d);
                        x.value(a, b, c, d);
                        x.kept(a, b, c, d);
                        x.keptKey(0, a, b, c, d);
                        x.keptValue(0, a, b, c, d);
                        x.keptKey(a, 0, b, c, d);
                        x.keptValue(a, 0, b, c, d);
                        calls += 8;
                    }
                }
            }
        }
        unchanged(x, before, "one of the calls that only tell");
    }

    public static void main(String[] args) {
        for (int stages : ODD) {
            LooseMarks x = new LooseMarks(stages);
            for (int i = 0; i < 250; i++) {
                x.feed(i % 16, Long.MIN_VALUE + i);
            }
            for (int i = 0; i < 10; i++) {
                x.mark();
                x.run(50);
            }
            refused("audit", x.audit(), false);
        }
        for (int n = 0; n < 2; n++) {
            LooseMarks x = job(n == 1);
            oneNumber(x, n == 1);
            manyNumbers(x);
        }
        System.out.println(calls + " calls");
        System.out.println(wrong == 0 ? "all answers are as due" : wrong + " answers are not as due");
        if (wrong != 0) {
            System.exit(1);
        }
    }
}
