import java.util.ArrayList;
import java.util.List;

/**
 * The document again, written apart from the class and in another way: a channel is one list with
 * the barrier as an element of it, kept rows are lists of their own, and what is READ is counted
 * anew each time. Random runs hold the class against it.
 */
final class PlainModel {
    private static final int NONE = -1, UNKNOWN = -101, OUTSIDE = -102, STATE = -103, ROOM = -104;
    private static final Row BARRIER = new Row(-7, 0);

    record Row(int key, long value) { }

    static final class Lane {
        final List<Row> line = new ArrayList<>();
        boolean came, loose;

        int rows() {
            return line.size() - (line.contains(BARRIER) ? 1 : 0);
        }

        List<Row> onlyRows() {
            List<Row> rows = new ArrayList<>(line);
            rows.remove(BARRIER);
            return rows;
        }
    }

    static final class Worker {
        boolean took, waits;
        int came, since, latest = NONE;
    }

    static final class Saved {
        int state, rows, began, ended;
        int[] p;
        boolean[][][] loose = new boolean[3][4][4];
        int[][] many = new int[4][16];
        long[][] sum = new long[4][16];
        List<List<Row>> lanes = new ArrayList<>();
    }

    final int s;
    int[] p = {1, 1, 1, 1};
    List<Row> input = new ArrayList<>();
    int[][] many = new int[4][16];
    long[][] sum = new long[4][16];
    Lane[][][] lanes = new Lane[3][4][4];
    Worker[][] workers = new Worker[4][4];
    List<Saved> saved = new ArrayList<>();
    Saved now;
    int turns, capacity = 5, bound = 0, limit = 200;

    PlainModel(int stages) {
        s = stages < 2 ? 2 : stages > 4 ? 4 : stages;
        fresh();
    }

    private void fresh() {
        for (int g = 0; g < 3; g++) {
            for (int i = 0; i < 16; i++) {
                lanes[g][i / 4][i % 4] = new Lane();
            }
        }
        for (int i = 0; i < 16; i++) {
            workers[i / 4][i % 4] = new Worker();
        }
    }

    int wide(int stage, int tasks) {
        if (stage < 0 || stage >= s) return UNKNOWN;
        if (tasks < 1 || tasks > 4) return OUTSIDE;
        if (turns != 0 || !saved.isEmpty()) return STATE;
        int was = p[stage];
        p[stage] = tasks;
        return was;
    }

    int capacity(int rows) {
        if (rows < 1 || rows > 20) return OUTSIDE;
        int was = capacity;
        capacity = rows;
        return was;
    }

    int bound(int b) {
        if (b < -1 || b > 1000) return OUTSIDE;
        if (now != null) return STATE;
        int was = bound;
        bound = b;
        return was;
    }

    int limit(int rows) {
        if (rows < 0 || rows > 200) return OUTSIDE;
        int was = limit;
        limit = rows;
        return was;
    }

    int feed(int key, long value) {
        if (key < 0 || key > 15) return OUTSIDE;
        if (input.size() == 200) return ROOM;
        input.add(new Row(key, value));
        return input.size() - 1;
    }

    private boolean isTask(int stage, int task) {
        return stage >= 0 && stage < s && task >= 0 && task < p[stage];
    }

    int turn(int stage, int task) {
        if (!isTask(stage, task)) return UNKNOWN;
        turns++;
        if (stage == 0) return readOne(task);
        Worker w = workers[stage][task];
        for (int from = 0; from < p[stage - 1]; from++) {
            Lane lane = lanes[stage - 1][from][task];
            if (!lane.line.isEmpty() && lane.line.get(0) == BARRIER) {
                lane.line.remove(0);
                came(lane, stage, task);
                return 2;
            }
        }
        if (w.waits && bound != NONE && turns - w.since >= bound) {
            part(stage, task, true);
            return 3;
        }
        for (int k = 1; k <= p[stage - 1]; k++) {
            int from = (w.latest + k) % p[stage - 1];
            Lane lane = lanes[stage - 1][from][task];
            boolean shut = w.waits && lane.came;
            if (lane.line.isEmpty() || shut || !free(stage, lane.line.get(0))) continue;
            Row row = lane.line.remove(0);
            w.latest = from;
            if (w.took && !lane.came) {
                now.loose[stage - 1][from][task] = lane.loose = true;
                save(row, stage - 1, from, task);
            }
            pass(stage, row);
            return 1;
        }
        return 0;
    }

    private int readOne(int task) {
        int[] seen = new int[16];
        for (Row row : input) {
            boolean read = seen[row.key()]++ < many[0][row.key()];
            if (read || row.key() % p[0] != task) continue;
            if (!free(0, row)) return 0;
            pass(0, row);
            return 1;
        }
        return 0;
    }

    private Lane way(int stage, Row row) {
        return lanes[stage][row.key() % p[stage]][row.key() % p[stage + 1]];
    }

    private boolean free(int stage, Row row) {
        return stage == s - 1 || way(stage, row).rows() < capacity;
    }

    private void pass(int stage, Row row) {
        many[stage][row.key()]++;
        sum[stage][row.key()] += row.value();
        if (stage < s - 1) way(stage, row).line.add(row);
    }

    private void save(Row row, int gap, int from, int to) {
        if (now.rows + 1 > limit) {
            over(2);
            return;
        }
        now.rows++;
        now.lanes.get(gap * 16 + from * 4 + to).add(row);
    }

    private void came(Lane lane, int stage, int task) {
        Worker w = workers[stage][task];
        lane.came = true;
        if (w.came++ == 0) w.since = turns;
        if (!w.took) {
            if (lane.loose || bound == 0) part(stage, task, true);
            else if (w.came == p[stage - 1]) part(stage, task, false);
            else w.waits = true;
        }
        if (now == null) return;
        for (int a = 0; a < s; a++) {
            for (int b = 0; b < p[a]; b++) {
                if (!workers[a][b].took) return;
                for (int c = 0; a < s - 1 && c < p[a + 1]; c++) {
                    if (!lanes[a][b][c].came) return;
                }
            }
        }
        over(1);
    }

    private void part(int stage, int task, boolean loosely) {
        Worker w = workers[stage][task];
        w.took = true;
        w.waits = false;
        for (int k = task; k < 16; k += p[stage]) {
            now.many[stage][k] = many[stage][k];
            now.sum[stage][k] = sum[stage][k];
        }
        if (stage == s - 1) return;
        for (int to = 0; to < p[stage + 1]; to++) {
            Lane lane = lanes[stage][task][to];
            if (!loosely) {
                lane.line.add(BARRIER);
                continue;
            }
            now.loose[stage][task][to] = lane.loose = true;
            for (Row row : new ArrayList<>(lane.line)) {
                save(row, stage, task, to);
                if (now == null) return;
            }
            lane.line.add(0, BARRIER);
        }
    }

    private void over(int state) {
        now.state = state;
        now.ended = turns;
        now = null;
        for (Lane[][] gap : lanes) {
            for (Lane[] from : gap) {
                for (Lane lane : from) {
                    lane.line.remove(BARRIER);
                    lane.came = lane.loose = false;
                }
            }
        }
        for (Worker[] stage : workers) {
            for (Worker w : stage) {
                w.took = w.waits = false;
                w.came = 0;
            }
        }
    }

    int run(int rounds) {
        if (rounds < 1 || rounds > 50) return OUTSIDE;
        int did = 0;
        for (int r = 0; r < rounds; r++) {
            for (int a = 0; a < s; a++) {
                for (int b = 0; b < p[a]; b++) {
                    if (turn(a, b) > 0) did++;
                }
            }
        }
        return did;
    }

    int mark() {
        if (now != null) return STATE;
        if (saved.size() == 8) return ROOM;
        now = new Saved();
        now.began = turns;
        now.p = p.clone();
        for (int i = 0; i < 48; i++) {
            now.lanes.add(new ArrayList<>());
        }
        saved.add(now);
        for (int t = 0; t < p[0]; t++) {
            if (now != null) part(0, t, bound == 0);
        }
        return saved.size() - 1;
    }

    int giveUp() {
        if (now == null) return STATE;
        int number = saved.indexOf(now);
        over(3);
        return number;
    }

    int restore(int mark, int... q) {
        if (mark < 0 || mark >= saved.size()) return UNKNOWN;
        for (int a = 0; a < s; a++) {
            if (q[a] < 1 || q[a] > 4) return OUTSIDE;
        }
        Saved m = saved.get(mark);
        if (m.state != 1) return STATE;
        if (now != null) over(2);
        for (int a = 0; a < s; a++) {
            p[a] = q[a];
        }
        fresh();
        int rows = 0;
        for (int a = 0; a < 4; a++) {
            many[a] = m.many[a].clone();
            sum[a] = m.sum[a].clone();
        }
        for (int lane = 0; lane < 48; lane++) {
            for (Row row : m.lanes.get(lane)) {
                way(lane / 16, row).line.add(row);
                rows++;
            }
        }
        return rows;
    }

    int about(int what) {
        if (what >= 10 && what < 10 + s) return p[what - 10];
        int all = 0;
        switch (what) {
            case 0: return s;
            case 1: return input.size();
            case 2:
                for (int n : many[0]) all += n;
                return all;
            case 3: return turns;
            case 4: return saved.size();
            case 5: return now == null ? NONE : saved.indexOf(now);
            case 6:
                for (Lane[][] gap : lanes) for (Lane[] from : gap) for (Lane lane : from) all += lane.rows();
                return all;
            case 7: return capacity;
            case 8: return bound;
            case 9: return limit;
            default: return OUTSIDE;
        }
    }

    int many(int stage, int key) {
        if (stage < 0 || stage >= s) return UNKNOWN;
        return key < 0 || key > 15 ? OUTSIDE : many[stage][key];
    }

    long sum(int stage, int key) {
        return stage < 0 || stage >= s || key < 0 || key > 15 ? 0 : sum[stage][key];
    }

    int task(int stage, int task, int what) {
        if (!isTask(stage, task)) return UNKNOWN;
        Worker w = workers[stage][task];
        if (what == 0) return w.took ? 1 : 0;
        if (what == 1) return w.waits ? 1 : 0;
        if (what == 2) return w.came;
        if (what == 3) return stage == 0 ? NONE : (w.latest + 1) % p[stage - 1];
        return OUTSIDE;
    }

    private boolean isLane(int[] widths, int gap, int from, int to) {
        return gap >= 0 && gap < s - 1 && from >= 0 && from < widths[gap] && to >= 0 && to < widths[gap + 1];
    }

    int channel(int gap, int from, int to, int what) {
        if (!isLane(p, gap, from, to)) return UNKNOWN;
        Lane lane = lanes[gap][from][to];
        if (what == 0) return lane.rows();
        if (what == 1) return lane.line.indexOf(BARRIER);
        if (what == 2) return lane.came ? 1 : 0;
        if (what == 3) return lane.came && workers[gap + 1][to].waits ? 1 : 0;
        return OUTSIDE;
    }

    private static Row at(List<Row> rows, int i) {
        return i < 0 || i >= rows.size() ? new Row(NONE, 0) : rows.get(i);
    }

    int key(int gap, int from, int to, int i) {
        return isLane(p, gap, from, to) ? at(lanes[gap][from][to].onlyRows(), i).key() : UNKNOWN;
    }

    long value(int gap, int from, int to, int i) {
        return isLane(p, gap, from, to) ? at(lanes[gap][from][to].onlyRows(), i).value() : 0;
    }

    private Saved savedAt(int mark) {
        return mark < 0 || mark >= saved.size() ? null : saved.get(mark);
    }

    int marked(int mark, int what) {
        Saved m = savedAt(mark);
        if (m == null) return UNKNOWN;
        if (what >= 10 && what < 10 + s) return m.p[what - 10];
        if (what == 0) return m.state;
        if (what == 1) return m.rows;
        if (what == 2) {
            int loose = 0;
            for (boolean[][] gap : m.loose) for (boolean[] from : gap) for (boolean one : from) loose += one ? 1 : 0;
            return loose;
        }
        if (what == 3) return (m == now ? turns : m.ended) - m.began;
        return OUTSIDE;
    }

    int keptMany(int mark, int stage, int key) {
        Saved m = savedAt(mark);
        if (m == null || stage < 0 || stage >= s) return UNKNOWN;
        return key < 0 || key > 15 ? OUTSIDE : m.many[stage][key];
    }

    long keptSum(int mark, int stage, int key) {
        Saved m = savedAt(mark);
        return m == null || stage < 0 || stage >= s || key < 0 || key > 15 ? 0 : m.sum[stage][key];
    }

    private List<Row> keptRows(int mark, int gap, int from, int to) {
        Saved m = savedAt(mark);
        return m == null || !isLane(m.p, gap, from, to) ? null : m.lanes.get(gap * 16 + from * 4 + to);
    }

    int kept(int mark, int gap, int from, int to) {
        List<Row> rows = keptRows(mark, gap, from, to);
        return rows == null ? UNKNOWN : rows.size();
    }

    int keptKey(int mark, int gap, int from, int to, int i) {
        List<Row> rows = keptRows(mark, gap, from, to);
        return rows == null ? UNKNOWN : at(rows, i).key();
    }

    long keptValue(int mark, int gap, int from, int to, int i) {
        List<Row> rows = keptRows(mark, gap, from, to);
        return rows == null ? 0 : at(rows, i).value();
    }

    /** Not promised to be asked: the model's own rows are not looked at, only that 0 is due. */
    int audit() {
        return 0;
    }
}
