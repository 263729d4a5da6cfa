import java.util.Arrays;

/**
 * Marks of a running job that need not wait: rows go through stages of tasks over channels,
 * barriers walk with the rows or overtake them, and from a whole mark the job goes on.
 */
public final class LooseMarks {
    public static final int NONE = -1, UNKNOWN = -101, OUTSIDE = -102, STATE = -103, ROOM = -104;

    private static final int LEAST_STAGES = 2, MOST_STAGES = 4;
    private static final int MOST_TASKS = 4;
    private static final int KEYS = 16;
    private static final int MOST_INPUT = 200;
    private static final int MOST_MARKS = 8;
    private static final int MOST_CAPACITY = 20, FIRST_CAPACITY = 5;
    private static final int MOST_BOUND = 1000;
    private static final int MOST_LIMIT = 200;
    private static final int MOST_ROUNDS = 50;
    private static final int CHANNELS_OF_GAP = MOST_TASKS * MOST_TASKS;

    /** How a mark stands, as marked(mark, 0) answers it. */
    private static final int UNDER_WAY = 0, WHOLE = 1, FAILED = 2, GIVEN_UP = 3;

    /** What a turn did, as turn answers it. */
    private static final int NOTHING = 0, TOOK_ROW = 1, TOOK_BARRIER = 2, TOOK_PART = 3;

    /** From here on about and marked tell the tasks of a stage. */
    private static final int FIRST_WIDTH = 10;

    private final int stages;
    private final int[] width = new int[MOST_STAGES];
    private final Input input = new Input();
    private final Tally tally = new Tally();
    private final Channel[] channels;
    private final Task[] tasks;
    private final Mark[] marks = new Mark[MOST_MARKS];
    private final Tally flow = new Tally();
    private int markCount = 0;
    private int underWay = NONE;
    private int turns = 0;
    private int capacity = FIRST_CAPACITY;
    private int bound = 0;
    private int limit = MOST_LIMIT;

    public LooseMarks(int stages) {
        this.stages = Math.max(LEAST_STAGES, Math.min(MOST_STAGES, stages));
        Arrays.fill(width, 1);
        // One chain for all channels: an INPUT row lies in at most one of them at a time.
        int[] behind = new int[MOST_INPUT];
        channels = new Channel[(this.stages - 1) * CHANNELS_OF_GAP];
        for (int number = 0; number < channels.length; number++) {
            channels[number] = new Channel(number, behind);
        }
        tasks = new Task[this.stages * MOST_TASKS];
        for (int number = 0; number < tasks.length; number++) {
            tasks[number] = new Task();
        }
    }

    public int wide(int stage, int tasks) {
        if (!isStage(stage)) {
            return UNKNOWN;
        }
        if (!isWidth(tasks)) {
            return OUTSIDE;
        }
        if (turns > 0 || markCount > 0) {
            return STATE;
        }
        int before = width[stage];
        width[stage] = tasks;
        return before;
    }

    public int capacity(int rows) {
        if (rows < 1 || rows > MOST_CAPACITY) {
            return OUTSIDE;
        }
        int before = capacity;
        capacity = rows;
        return before;
    }

    public int bound(int turns) {
        if (turns < NONE || turns > MOST_BOUND) {
            return OUTSIDE;
        }
        if (underWay != NONE) {
            return STATE;
        }
        int before = bound;
        bound = turns;
        return before;
    }

    public int limit(int rows) {
        if (rows < 0 || rows > MOST_LIMIT) {
            return OUTSIDE;
        }
        int before = limit;
        limit = rows;
        return before;
    }

    public int feed(int key, long value) {
        if (!isKey(key)) {
            return OUTSIDE;
        }
        return input.append(key, value);
    }

    public int turn(int stage, int task) {
        if (taskAt(stage, task) == null) {
            return UNKNOWN;
        }
        return makeTurn(stage, task);
    }

    public int run(int rounds) {
        if (rounds < 1 || rounds > MOST_ROUNDS) {
            return OUTSIDE;
        }
        int done = 0;
        for (int round = 0; round < rounds; round++) {
            for (int stage = 0; stage < stages; stage++) {
                for (int task = 0; task < widthOf(stage); task++) {
                    if (makeTurn(stage, task) != NOTHING) {
                        done++;
                    }
                }
            }
        }
        return done;
    }

    public int mark() {
        if (underWay != NONE) {
            return STATE;
        }
        if (markCount >= marks.length) {
            return ROOM;
        }
        int number = markCount;
        marks[number] = new Mark(width, turns);
        markCount++;
        underWay = number;
        // The mark may fail on the way; tasks behind that have nothing left to take part in.
        for (int task = 0; task < widthOf(0) && underWay != NONE; task++) {
            takePart(0, task, bound == 0);
        }
        return number;
    }

    public int giveUp() {
        if (underWay == NONE) {
            return STATE;
        }
        int number = underWay;
        endMark(GIVEN_UP);
        return number;
    }

    public int restore(int mark, int p0, int p1, int p2, int p3) {
        Mark from = markAt(mark);
        if (from == null) {
            return UNKNOWN;
        }
        if (!areWidths(p0, p1, p2, p3)) {
            return OUTSIDE;
        }
        if (from.state != WHOLE) {
            return STATE;
        }
        endMark(FAILED);
        setWidths(p0, p1, p2, p3);
        tally.copyAll(from.tally);
        input.rewind(tally);
        for (int number = 0; number < channels.length; number++) {
            channels[number].empty();
        }
        for (int number = 0; number < tasks.length; number++) {
            tasks[number].nextFrom = 0;
        }
        return placeKept(from);
    }

    public int about(int what) {
        if (what >= FIRST_WIDTH) {
            return isStage(what - FIRST_WIDTH) ? widthOf(what - FIRST_WIDTH) : OUTSIDE;
        }
        switch (what) {
            case 0: return stages;
            case 1: return input.size;
            case 2: return rowsRead();
            case 3: return turns;
            case 4: return markCount;
            case 5: return underWay;
            case 6: return rowsInChannels();
            case 7: return capacity;
            case 8: return bound;
            case 9: return limit;
            default: return OUTSIDE;
        }
    }

    public int many(int stage, int key) {
        if (!isStage(stage)) {
            return UNKNOWN;
        }
        return isKey(key) ? tally.rowsOf(stage, key) : OUTSIDE;
    }

    public long sum(int stage, int key) {
        return isStage(stage) && isKey(key) ? tally.totalOf(stage, key) : 0L;
    }

    public int task(int stage, int task, int what) {
        Task asked = taskAt(stage, task);
        if (asked == null) {
            return UNKNOWN;
        }
        switch (what) {
            case 0: return asked.tookPart ? 1 : 0;
            case 1: return asked.isWaiting() ? 1 : 0;
            case 2: return asked.came;
            case 3: return stage == 0 ? NONE : asked.nextFrom;
            default: return OUTSIDE;
        }
    }

    public int channel(int gap, int from, int to, int what) {
        Channel asked = channelAt(gap, from, to);
        if (asked == null) {
            return UNKNOWN;
        }
        switch (what) {
            case 0: return asked.rows;
            case 1: return asked.barrier;
            case 2: return asked.came ? 1 : 0;
            case 3: return isShut(asked, taskAt(gap + 1, to)) ? 1 : 0;
            default: return OUTSIDE;
        }
    }

    public int key(int gap, int from, int to, int i) {
        Channel asked = channelAt(gap, from, to);
        return asked == null ? UNKNOWN : input.keyOf(asked.rowAt(i));
    }

    public long value(int gap, int from, int to, int i) {
        Channel asked = channelAt(gap, from, to);
        return asked == null ? 0L : input.valueOf(asked.rowAt(i));
    }

    public int marked(int mark, int what) {
        Mark asked = markAt(mark);
        if (asked == null) {
            return UNKNOWN;
        }
        if (what >= FIRST_WIDTH) {
            int stage = what - FIRST_WIDTH;
            return isStage(stage) ? asked.widthOf(stage) : OUTSIDE;
        }
        switch (what) {
            case 0: return asked.state;
            case 1: return asked.keptRows;
            case 2: return asked.looseChannels;
            case 3: return (asked.state == UNDER_WAY ? turns : asked.ended) - asked.began;
            default: return OUTSIDE;
        }
    }

    public int keptMany(int mark, int stage, int key) {
        Mark asked = markAt(mark);
        if (asked == null || !isStage(stage)) {
            return UNKNOWN;
        }
        return isKey(key) ? asked.tally.rowsOf(stage, key) : OUTSIDE;
    }

    public long keptSum(int mark, int stage, int key) {
        Mark asked = markAt(mark);
        if (asked == null || !isStage(stage) || !isKey(key)) {
            return 0L;
        }
        return asked.tally.totalOf(stage, key);
    }

    public int kept(int mark, int gap, int from, int to) {
        Mark asked = markAt(mark);
        int number = keptChannel(asked, gap, from, to);
        return asked == null || number == NONE ? UNKNOWN : asked.rowsFor(number);
    }

    public int keptKey(int mark, int gap, int from, int to, int i) {
        Mark asked = markAt(mark);
        int number = keptChannel(asked, gap, from, to);
        return asked == null || number == NONE ? UNKNOWN : input.keyOf(asked.rowFor(number, i));
    }

    public long keptValue(int mark, int gap, int from, int to, int i) {
        Mark asked = markAt(mark);
        int number = keptChannel(asked, gap, from, to);
        return asked == null || number == NONE ? 0L : input.valueOf(asked.rowFor(number, i));
    }

    public int audit() {
        flow.clear();
        for (int number = 0; number < channels.length; number++) {
            addFlow(channels[number]);
        }
        int wrong = unlike(tally) + strayRows();
        for (int number = 0; number < markCount; number++) {
            Mark mark = markAt(number);
            if (mark != null && mark.state == WHOLE) {
                flow.clear();
                addKeptFlow(mark);
                wrong += unlike(mark.tally);
            }
        }
        return wrong;
    }

    // ---- what numbers name

    private boolean isStage(int stage) {
        return stage >= 0 && stage < stages;
    }

    private static boolean isKey(int key) {
        return key >= 0 && key < KEYS;
    }

    private static boolean isWidth(int count) {
        return count >= 1 && count <= MOST_TASKS;
    }

    /** The tasks of a stage; 0 for one that there is not, as that behind the last one. */
    private int widthOf(int stage) {
        return stage >= 0 && stage < stages ? width[stage] : 0;
    }

    private Task taskAt(int stage, int task) {
        if (task < 0 || task >= widthOf(stage)) {
            return null;
        }
        return tasks[stage * MOST_TASKS + task];
    }

    private Channel channelAt(int gap, int from, int to) {
        if (gap < 0 || gap >= stages - 1) {
            return null;
        }
        if (from < 0 || from >= width[gap] || to < 0 || to >= width[gap + 1]) {
            return null;
        }
        return channels[numberOf(gap, from, to)];
    }

    private Mark markAt(int mark) {
        return mark >= 0 && mark < markCount ? marks[mark] : null;
    }

    /** The number of a channel as it was when the mark began; NONE when there was none such. */
    private int keptChannel(Mark mark, int gap, int from, int to) {
        if (mark == null || gap < 0 || gap >= stages - 1) {
            return NONE;
        }
        if (from < 0 || from >= mark.widthOf(gap) || to < 0 || to >= mark.widthOf(gap + 1)) {
            return NONE;
        }
        return numberOf(gap, from, to);
    }

    /** Numbers go up gap by gap, then by the task from which, then by that to which. */
    private static int numberOf(int gap, int from, int to) {
        return gap * CHANNELS_OF_GAP + from * MOST_TASKS + to;
    }

    private static int gapOf(int number) {
        return number / CHANNELS_OF_GAP;
    }

    /** Which of so many tasks owns the KEY; NONE when there is no such task. */
    private static int owner(int key, int count) {
        return key < 0 || count < 1 ? NONE : key % count;
    }

    /** A number from 0 on, going round below the count. */
    private static int around(int number, int count) {
        return number < 0 || count < 1 ? 0 : number % count;
    }

    /** The channel of a gap in which rows of a KEY lie; null behind the last stage. */
    private Channel channelOf(int gap, int key) {
        return channelAt(gap, owner(key, widthOf(gap)), owner(key, widthOf(gap + 1)));
    }

    // ---- a turn

    private int makeTurn(int stage, int task) {
        turns++;
        Task taker = taskAt(stage, task);
        if (taker == null) {
            return NOTHING;
        }
        if (stage == 0) {
            return readTurn(task);
        }
        Channel barred = channelWithBarrier(stage, task);
        if (barred != null) {
            takeBarrier(barred, stage, task);
            return TOOK_BARRIER;
        }
        if (taker.isWaiting() && bound != NONE && turns - taker.firstCame >= bound) {
            takePart(stage, task, true);
            return TOOK_PART;
        }
        int from = channelToTake(taker, stage, task);
        Channel channel = channelAt(stage - 1, from, task);
        if (channel == null) {
            return NOTHING;
        }
        taker.nextFrom = around(from + 1, widthOf(stage - 1));
        int row = channel.removeFirst();
        keepTaken(channel, taker, row);
        passRow(stage, row);
        return TOOK_ROW;
    }

    private int readTurn(int task) {
        int row = input.firstUnread(task, widthOf(0));
        if (row == NONE || !canGoOn(0, row)) {
            return NOTHING;
        }
        input.read(row);
        passRow(0, row);
        return TOOK_ROW;
    }

    /** The first channel that leads to the task with the BARRIER at its front, or null. */
    private Channel channelWithBarrier(int stage, int task) {
        for (int from = 0; from < widthOf(stage - 1); from++) {
            Channel channel = channelAt(stage - 1, from, task);
            if (channel != null && channel.barrier == 0) {
                return channel;
            }
        }
        return null;
    }

    /** The task from which the channel leads whose row comes next; NONE when none can be taken. */
    private int channelToTake(Task taker, int stage, int task) {
        int count = widthOf(stage - 1);
        for (int step = 0; step < count; step++) {
            int from = around(taker.nextFrom + step, count);
            Channel channel = channelAt(stage - 1, from, task);
            if (channel != null && channel.hasRowInFront() && !isShut(channel, taker)
                    && canGoOn(stage, channel.rowAt(0))) {
                return from;
            }
        }
        return NONE;
    }

    /** In the last stage rows go nowhere, so nothing can be in their way. */
    private boolean canGoOn(int stage, int row) {
        Channel next = channelOf(stage, input.keyOf(row));
        return next == null || next.rows < capacity;
    }

    private void passRow(int stage, int row) {
        int key = input.keyOf(row);
        tally.count(stage, key, input.valueOf(row));
        Channel next = channelOf(stage, key);
        if (next != null) {
            next.append(row);
        }
    }

    // ---- a mark

    private static boolean isShut(Channel channel, Task to) {
        return channel.came && to != null && to.isWaiting();
    }

    private void takeBarrier(Channel channel, int stage, int task) {
        Task taker = taskAt(stage, task);
        if (taker == null) {
            return;
        }
        channel.barrier = NONE;
        channel.came = true;
        taker.barrierCame(turns);
        if (!taker.tookPart) {
            if (channel.loose || bound == 0) {
                takePart(stage, task, true);
            } else if (taker.came == widthOf(stage - 1)) {
                takePart(stage, task, false);
            }
        }
        if (underWay != NONE && isComplete()) {
            endMark(WHOLE);
        }
    }

    private void takePart(int stage, int task, boolean loosely) {
        Mark mark = markAt(underWay);
        Task taker = taskAt(stage, task);
        if (mark == null || taker == null) {
            return;
        }
        taker.tookPart = true;
        mark.tally.copyOwned(tally, stage, task, widthOf(stage));
        for (int to = 0; to < widthOf(stage + 1); to++) {
            Channel channel = channelAt(stage, task, to);
            if (channel == null) {
                continue;
            }
            if (loosely && !overtake(mark, channel)) {
                endMark(FAILED);
                return;
            }
            channel.barrier = loosely ? 0 : channel.rows;
        }
    }

    /** A row that came before the BARRIER, to a task that took part before it, is in neither. */
    private void keepTaken(Channel channel, Task taker, int row) {
        Mark mark = markAt(underWay);
        if (mark == null || !taker.tookPart || channel.came) {
            return;
        }
        mark.loosen(channel);
        if (!mark.keep(channel, row, limit)) {
            endMark(FAILED);
        }
    }

    /** Whether all the rows that the barrier overtakes could be kept. */
    private boolean overtake(Mark mark, Channel channel) {
        mark.loosen(channel);
        int row = channel.first;
        for (int i = 0; i < channel.rows; i++) {
            if (!mark.keep(channel, row, limit)) {
                return false;
            }
            row = channel.rowBehind(row);
        }
        return true;
    }

    private boolean isComplete() {
        for (int stage = 0; stage < stages; stage++) {
            for (int task = 0; task < widthOf(stage); task++) {
                Task asked = taskAt(stage, task);
                if (asked == null || !asked.tookPart || asked.came != widthOf(stage - 1)) {
                    return false;
                }
            }
        }
        return true;
    }

    /** Without a mark under way tasks and channels show nothing of one, so all of it is wiped. */
    private void endMark(int state) {
        Mark mark = markAt(underWay);
        if (mark == null) {
            return;
        }
        mark.state = state;
        mark.ended = turns;
        underWay = NONE;
        for (int number = 0; number < channels.length; number++) {
            channels[number].forgetMark();
        }
        for (int number = 0; number < tasks.length; number++) {
            tasks[number].forgetMark();
        }
    }

    // ---- to restore

    private boolean areWidths(int p0, int p1, int p2, int p3) {
        return isWidth(p0) && isWidth(p1)
                && (stages < 3 || isWidth(p2))
                && (stages < 4 || isWidth(p3));
    }

    private void setWidths(int p0, int p1, int p2, int p3) {
        width[0] = p0;
        width[1] = p1;
        // A stage that there is not keeps its one task: what was told of it is not looked at.
        if (stages > 2) {
            width[2] = p2;
        }
        if (stages > 3) {
            width[3] = p3;
        }
    }

    /** How many rows were placed. */
    private int placeKept(Mark mark) {
        int placed = 0;
        for (int number = 0; number < channels.length; number++) {
            for (int i = 0; i < mark.keptRows; i++) {
                if (mark.channelKept(i) == number) {
                    int row = mark.rowKept(i);
                    Channel channel = channelOf(gapOf(number), input.keyOf(row));
                    if (channel != null) {
                        channel.append(row);
                        placed++;
                    }
                }
            }
        }
        return placed;
    }

    // ---- to tell and to audit

    private int rowsRead() {
        int read = 0;
        for (int key = 0; key < KEYS; key++) {
            read += tally.rowsOf(0, key);
        }
        return read;
    }

    private int rowsInChannels() {
        int rows = 0;
        for (int number = 0; number < channels.length; number++) {
            rows += channels[number].rows;
        }
        return rows;
    }

    /** Adds the rows of a channel to the flow, which has gaps where a tally has stages. */
    private void addFlow(Channel channel) {
        int row = channel.first;
        for (int i = 0; i < channel.rows; i++) {
            flow.count(gapOf(channel.number), input.keyOf(row), input.valueOf(row));
            row = channel.rowBehind(row);
        }
    }

    private void addKeptFlow(Mark mark) {
        for (int i = 0; i < mark.keptRows; i++) {
            int row = mark.rowKept(i);
            flow.count(gapOf(mark.channelKept(i)), input.keyOf(row), input.valueOf(row));
        }
    }

    /** How many KEYS of gaps and of stage 0 do not agree, with the flow that was added. */
    private int unlike(Tally asked) {
        int wrong = 0;
        for (int key = 0; key < KEYS; key++) {
            for (int gap = 0; gap < stages - 1; gap++) {
                if (asked.rowsOf(gap, key) != asked.rowsOf(gap + 1, key) + flow.rowsOf(gap, key)
                        || asked.totalOf(gap, key)
                        != asked.totalOf(gap + 1, key) + flow.totalOf(gap, key)) {
                    wrong++;
                }
            }
            if (!input.startsWith(key, asked.rowsOf(0, key), asked.totalOf(0, key))) {
                wrong++;
            }
        }
        return wrong;
    }

    private int strayRows() {
        int stray = 0;
        for (int number = 0; number < channels.length; number++) {
            Channel channel = channels[number];
            int row = channel.first;
            for (int i = 0; i < channel.rows; i++) {
                Channel home = channelOf(gapOf(number), input.keyOf(row));
                if (home == null || home.number != number) {
                    stray++;
                }
                row = channel.rowBehind(row);
            }
        }
        return stray;
    }

    // ---- the parts

    private static boolean isRow(int row) {
        return row >= 0 && row < MOST_INPUT;
    }

    /** The INPUT rows. All else names rows by their number here, as INPUT rows stay. */
    private static final class Input {
        private final int[] keys = new int[MOST_INPUT];
        private final long[] values = new long[MOST_INPUT];
        /** Of each KEY the first row that is not READ, or NONE. */
        private final int[] unread = new int[KEYS];
        private int size = 0;

        Input() {
            Arrays.fill(unread, NONE);
        }

        int append(int key, long value) {
            if (size >= MOST_INPUT) {
                return ROOM;
            }
            if (!isKey(key)) {
                return OUTSIDE;
            }
            int row = size;
            keys[row] = key;
            values[row] = value;
            size++;
            if (unread[key] == NONE) {
                unread[key] = row;
            }
            return row;
        }

        int keyOf(int row) {
            return isRow(row) && row < size ? keys[row] : NONE;
        }

        long valueOf(int row) {
            return isRow(row) && row < size ? values[row] : 0L;
        }

        int firstUnread(int task, int count) {
            int first = NONE;
            for (int key = 0; key < KEYS; key++) {
                int row = unread[key];
                if (row != NONE && owner(key, count) == task && (first == NONE || row < first)) {
                    first = row;
                }
            }
            return first;
        }

        void read(int row) {
            int key = keyOf(row);
            if (isKey(key)) {
                unread[key] = nextOf(key, row + 1);
            }
        }

        /** The first row of a KEY at or behind a number, or NONE. */
        int nextOf(int key, int from) {
            for (int row = from; row < size; row++) {
                if (keyOf(row) == key) {
                    return row;
                }
            }
            return NONE;
        }

        /** So many rows of each KEY are READ as stage 0 took. */
        void rewind(Tally tally) {
            for (int key = 0; key < KEYS; key++) {
                unread[key] = nextOf(key, 0);
                int taken = tally.rowsOf(0, key);
                for (int i = 0; i < taken && unread[key] != NONE; i++) {
                    unread[key] = nextOf(key, unread[key] + 1);
                }
            }
        }

        /** Whether the first so many rows of a KEY are there and have this sum. */
        boolean startsWith(int key, int count, long total) {
            int left = count;
            long rest = total;
            for (int row = 0; row < size && left > 0; row++) {
                if (keyOf(row) == key) {
                    left--;
                    rest -= valueOf(row);
                }
            }
            return left == 0 && rest == 0L;
        }
    }

    /** How MANY rows, and the SUM of their VALUES, for each stage and KEY. */
    private static final class Tally {
        private final int[] rows = new int[MOST_STAGES * KEYS];
        private final long[] totals = new long[MOST_STAGES * KEYS];

        static int placeOf(int stage, int key) {
            return stage >= 0 && stage < MOST_STAGES && isKey(key) ? stage * KEYS + key : NONE;
        }

        int rowsOf(int stage, int key) {
            int place = placeOf(stage, key);
            return place == NONE ? 0 : rows[place];
        }

        long totalOf(int stage, int key) {
            int place = placeOf(stage, key);
            return place == NONE ? 0L : totals[place];
        }

        void count(int stage, int key, long value) {
            int place = placeOf(stage, key);
            if (place != NONE) {
                rows[place]++;
                totals[place] += value;
            }
        }

        /** Copies the KEYS that a task of a stage with so many tasks owns. */
        void copyOwned(Tally from, int stage, int task, int count) {
            for (int key = 0; key < KEYS; key++) {
                int place = placeOf(stage, key);
                if (place != NONE && owner(key, count) == task) {
                    rows[place] = from.rows[place];
                    totals[place] = from.totals[place];
                }
            }
        }

        void copyAll(Tally from) {
            System.arraycopy(from.rows, 0, rows, 0, rows.length);
            System.arraycopy(from.totals, 0, totals, 0, totals.length);
        }

        void clear() {
            Arrays.fill(rows, 0);
            Arrays.fill(totals, 0L);
        }
    }

    /** A task, and what it knows of the mark under way. */
    private static final class Task {
        private boolean tookPart = false;
        private int came = 0;
        /** The number of the turn in which the first BARRIER came. */
        private int firstCame = 0;
        private int nextFrom = 0;

        boolean isWaiting() {
            return came > 0 && !tookPart;
        }

        void barrierCame(int turn) {
            if (came == 0) {
                firstCame = turn;
            }
            came++;
        }

        void forgetMark() {
            tookPart = false;
            came = 0;
            firstCame = 0;
        }
    }

    /** A channel: a chain of rows, and what it knows of the mark under way. */
    private static final class Channel {
        private final int number;
        /** For each row the one behind it. */
        private final int[] behind;
        private int first = NONE;
        private int last = NONE;
        private int rows = 0;
        /** How many rows stand before the BARRIER, or NONE. */
        private int barrier = NONE;
        private boolean came = false;
        private boolean loose = false;

        Channel(int number, int[] behind) {
            this.number = number;
            this.behind = behind;
        }

        int rowBehind(int row) {
            return row >= 0 && row < behind.length ? behind[row] : NONE;
        }

        int rowAt(int i) {
            if (i < 0 || i >= rows) {
                return NONE;
            }
            int row = first;
            for (int step = 0; step < i; step++) {
                row = rowBehind(row);
            }
            return row;
        }

        boolean hasRowInFront() {
            return rows > 0 && barrier != 0;
        }

        void append(int row) {
            if (row < 0 || row >= behind.length) {
                return;
            }
            behind[row] = NONE;
            if (last >= 0 && last < behind.length) {
                behind[last] = row;
            } else {
                first = row;
            }
            last = row;
            rows++;
        }

        int removeFirst() {
            int row = first;
            if (row == NONE) {
                return NONE;
            }
            first = rowBehind(row);
            if (first == NONE) {
                last = NONE;
            }
            rows--;
            if (barrier > 0) {
                barrier--;
            }
            return row;
        }

        void empty() {
            first = NONE;
            last = NONE;
            rows = 0;
        }

        void forgetMark() {
            barrier = NONE;
            came = false;
            loose = false;
        }
    }

    /** A mark, with the rows kept in the order in which they were, each with its channel. */
    private static final class Mark {
        private final int[] width;
        private final int began;
        private final Tally tally = new Tally();
        private final int[] keptRow = new int[MOST_LIMIT];
        private final int[] keptFor = new int[MOST_LIMIT];
        private int keptRows = 0;
        private int looseChannels = 0;
        private int state = UNDER_WAY;
        private int ended = 0;

        Mark(int[] width, int began) {
            this.width = Arrays.copyOf(width, MOST_STAGES);
            this.began = began;
        }

        int widthOf(int stage) {
            return stage >= 0 && stage < width.length ? width[stage] : 0;
        }

        void loosen(Channel channel) {
            if (!channel.loose) {
                channel.loose = true;
                looseChannels++;
            }
        }

        /** Whether the row could be kept within the limit. */
        boolean keep(Channel channel, int row, int limit) {
            if (keptRows >= limit || keptRows >= keptRow.length) {
                return false;
            }
            keptRow[keptRows] = row;
            keptFor[keptRows] = channel.number;
            keptRows++;
            return true;
        }

        int rowKept(int i) {
            return i >= 0 && i < keptRows ? keptRow[i] : NONE;
        }

        int channelKept(int i) {
            return i >= 0 && i < keptRows ? keptFor[i] : NONE;
        }

        int rowsFor(int number) {
            int count = 0;
            for (int i = 0; i < keptRows; i++) {
                if (keptFor[i] == number) {
                    count++;
                }
            }
            return count;
        }

        /** Row i of those kept for a channel, or NONE. */
        int rowFor(int number, int i) {
            if (i < 0) {
                return NONE;
            }
            int left = i;
            for (int k = 0; k < keptRows; k++) {
                if (keptFor[k] == number) {
                    if (left == 0) {
                        return keptRow[k];
                    }
                    left--;
                }
            }
            return NONE;
        }
    }
}
