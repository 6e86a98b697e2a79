/**
 * A keeper of things in scopes, of the tasks that work on them, and of an image to go back to.
 *
 * The face only looks at its arguments and words its answers: what there is stands in a World,
 * what happens to it is done by a Runner, and texts go through a Reader and a Speller.
 */
public final class ScopeWarden {
    public static final int NONE = -1, BAD = -2, STATE = -3, FULL = -4;
    public static final long NO = Long.MIN_VALUE;

    private static final int NOT_ANY = -5, NOTHING = -11, BEYOND = -13, BELOW = -14;
    private static final int TEXT_FAULT = -100;
    private static final int ROW_ENDED = 200;

    private static final int MOST_SCOPES = 60, MOST_THINGS = 90, MOST_TASKS = 10, MOST_COUNTERS = 8;
    private static final int MOST_ROWS = 4, MOST_CELLS = 40, MOST_BYTES = 120, MOST_LETTERS = 7;
    private static final int MOST_PRIORITY = 99, MOST_TICKS = 100;
    private static final int MOST_BRACES = 3, MOST_NESTING = 8;

    private static final int OPEN = 0, SHUT = 1, SHUTTING = 2;
    private static final int HELD = 0, CLOSED = 1, CLOSING = 2;
    private static final int READY = 0, DONE = 1, FAILED = 2, CANCELLED = 3;

    private static final int ROOT = 0;
    private static final int BY_CALL = -1;
    private static final int NO_THING = -1;
    private static final int END_OF_TEXT = -1;

    /** A thing is told by its number, a scope by this and its number, a task at work by that and its number. */
    private static final int SCOPE_NODE = 100, TASK_NODE = 200;

    private static final int NOT_OPEN = 101, NAME_HELD = 102, THINGS_FULL = 103, NAME_NOT_HELD = 104;
    private static final int NO_OPEN_SCOPE = 105, NO_READY_TASK = 106, SCOPES_FULL = 107;

    /** No run of calls comes near so many goings-on of a Runner: it is there for the end of its loop. */
    private static final int ENOUGH = 1000000;

    private final Reader reader = new Reader();
    private final Ints tape = reader.tape;
    private final Speller speller = new Speller();
    private final Ints sheet = speller.sheet;
    private final Ints[] rows = new Ints[MOST_ROWS];
    private final Runner runner = new Runner();
    private final World world = runner.world;
    /** What image() took; null: nothing yet. */
    private World kept;
    /** Does what is only thought of, in a world of its own; null: nothing was thought of yet. */
    private Runner thinker;

    public ScopeWarden() {
        for (int i = 0; i < rows.length; i++) {
            rows[i] = new Ints(MOST_CELLS);
            rows[i].size = NOTHING;
        }
    }

    // ---- texts

    public int feed(int letter) {
        if (letter < 1 || letter > 127) {
            return BAD;
        }
        return tape.append(letter) ? tape.size : FULL;
    }

    public int clear() {
        int had = tape.size;
        tape.size = 0;
        return had;
    }

    public int spell(int thing) {
        Thing t = world.thingAt(thing);
        return t == null ? NONE : speller.write(t.closer);
    }

    public int spellTask(int task) {
        Task t = world.taskAt(task);
        return t == null ? NONE : speller.write(t.steps);
    }

    public int paper(int i) {
        return sheet.has(i) ? sheet.at(i) : NONE;
    }

    // ---- scopes and things

    public int open(int parent) {
        Scope s = world.scopeAt(parent);
        if (s == null) {
            return NONE;
        }
        if (s.state != OPEN) {
            return STATE;
        }
        return world.scopesAreFull() ? FULL : world.addScope(parent, NOT_ANY);
    }

    public int take(int scope) {
        Scope s = world.scopeAt(scope);
        if (s == null) {
            return NONE;
        }
        if (s.state != OPEN) {
            return STATE;
        }
        Step text = reader.readThing();
        tape.size = 0;
        if (text == null) {
            return TEXT_FAULT - reader.fault;
        }
        if (world.thingsAreFull()) {
            return FULL;
        }
        return world.heldWithName(text.name) >= 0 ? STATE : world.addThing(text, scope);
    }

    public int close(int thing) {
        Thing t = world.thingAt(thing);
        if (t == null) {
            return NONE;
        }
        return t.state != HELD ? STATE : runner.endInCall(thing);
    }

    public int shut(int scope) {
        Scope s = world.scopeAt(scope);
        if (s == null) {
            return NONE;
        }
        return s.state != OPEN ? STATE : runner.endInCall(SCOPE_NODE + scope);
    }

    public int move(int thing, int scope) {
        Thing t = world.thingAt(thing);
        Scope s = world.scopeAt(scope);
        if (t == null || s == null) {
            return NONE;
        }
        if (t.state != HELD || s.state != OPEN) {
            return STATE;
        }
        world.moveThing(thing, scope);
        return world.entriesOf(scope);
    }

    public int count(int counter, int v) {
        if (!world.counters.has(counter)) {
            return NONE;
        }
        world.counters.put(counter, world.counters.at(counter) + v);
        return world.counters.at(counter);
    }

    public long counter(int counter) {
        return world.counters.has(counter) ? world.counters.at(counter) : NO;
    }

    public int scope(int scope, int what) {
        Scope s = world.scopeAt(scope);
        if (s == null) {
            return NONE;
        }
        switch (what) {
            case 0: return s.state;
            case 1: return s.parent;
            case 2: return world.entriesOf(scope);
            case 3: return world.heldWithin(scope);
            case 4: return world.scopesAbove(scope);
            case 5: return s.task;
            default: return NONE;
        }
    }

    public int below(int scope, int other) {
        if (world.scopeAt(scope) == null || world.scopeAt(other) == null) {
            return NONE;
        }
        return world.isWithin(scope, other) ? 1 : 0;
    }

    public int youngest(int scope) {
        return world.scopeAt(scope) == null ? NONE : world.youngestWithin(scope);
    }

    public int entry(int scope, int i) {
        return world.scopeAt(scope) == null ? NONE : world.entryAt(scope, i);
    }

    public int thing(int thing, int what) {
        Thing t = world.thingAt(thing);
        if (t == null) {
            return NONE;
        }
        switch (what) {
            case 0: return t.state;
            case 1: return t.owner;
            case 2: return t.place;
            case 3: return stepsFrom(t.closer);
            default: return NONE;
        }
    }

    public int name(int thing, int i) {
        Thing t = world.thingAt(thing);
        if (t == null) {
            return NONE;
        }
        if (i == -1) {
            return lettersOf(t.name);
        }
        int letter = letterOf(t.name, i);
        return letter == 0 ? NONE : letter;
    }

    public int find() {
        long wanted = reader.readWholeName();
        tape.size = 0;
        return reader.fault >= 0 ? NOT_ANY : world.heldWithName(wanted);
    }

    public int from() {
        int least = world.heldFrom(tape);
        tape.size = 0;
        return least;
    }

    public int rename(int thing) {
        Thing t = world.thingAt(thing);
        if (t == null) {
            return NONE;
        }
        if (t.state != HELD) {
            return STATE;
        }
        long wanted = reader.readWholeName();
        tape.size = 0;
        if (reader.fault >= 0) {
            return TEXT_FAULT - reader.fault;
        }
        if (world.heldWithName(wanted) >= 0) {
            return STATE;
        }
        t.name = wanted;
        return lettersOf(wanted);
    }

    public int byName(int i) {
        return world.heldAtPlace(i);
    }

    public int plan(int scope, int i) {
        return world.scopeAt(scope) == null ? NONE : world.planned(scope, i);
    }

    public int would(int scope, int what) {
        Scope s = world.scopeAt(scope);
        if (s == null || what < 0 || what > 5) {
            return NONE;
        }
        if (s.state != OPEN) {
            return STATE;
        }
        Runner inThought = thinkerOfNow();
        World thought = inThought.world;
        int gathered = inThought.endInCall(SCOPE_NODE + scope);
        switch (what) {
            case 0: return gathered;
            case 1: return thought.faultNumber(BY_CALL, 0);
            case 2: return thought.faultThing(BY_CALL, 0);
            case 3: return thought.log.size - world.log.size;
            case 4: return thought.thingCount - world.thingCount;
            default: return thought.heldWithin(ROOT);
        }
    }

    public int trial(int task, int n, int what) {
        if (world.taskAt(task) == null || what < 0 || what > 5) {
            return NONE;
        }
        if (n < 0 || n > MOST_TICKS) {
            return BAD;
        }
        Runner inThought = thinkerOfNow();
        World thought = inThought.world;
        inThought.tickUpTo(n);
        Task t = thought.taskAt(task);
        switch (what) {
            case 0: return thought.faultCount(task);
            case 1: return thought.faultNumber(task, 0);
            case 2: return thought.faultThing(task, 0);
            case 3: return t == null ? NONE : t.state;
            case 4: return t == null ? NONE : t.turns;
            default: return thought.log.size;
        }
    }

    public int log(int i) {
        return world.log.has(i) ? world.log.at(i) : NONE;
    }

    public int fault(int task, int i, int what) {
        if (i < 0 || i >= faults(task) || what < 0 || what > 1) {
            return NONE;
        }
        return what == 0 ? world.faultNumber(task, i) : world.faultThing(task, i);
    }

    public int faults(int task) {
        if (task != BY_CALL && world.taskAt(task) == null) {
            return NONE;
        }
        return world.faultCount(task);
    }

    // ---- tasks

    public int task(int parent, int priority) {
        Scope s = world.scopeAt(parent);
        if (s == null) {
            return NONE;
        }
        if (!mayBePriority(priority)) {
            return BAD;
        }
        if (s.state != OPEN) {
            return STATE;
        }
        if (world.tasksAreFull() || world.scopesAreFull()) {
            return FULL;
        }
        Step steps = reader.readTask();
        tape.size = 0;
        return steps == null ? TEXT_FAULT - reader.fault : world.addTask(steps, parent, priority);
    }

    public int tick() {
        return runner.tickOnce();
    }

    public int run(int n) {
        return n < 0 || n > MOST_TICKS ? BAD : runner.tickUpTo(n);
    }

    public int cancel(int task) {
        Task t = world.taskAt(task);
        if (t == null) {
            return NONE;
        }
        if (t.state != READY) {
            return STATE;
        }
        int answer = t.asked ? 0 : 1;
        t.asked = true;
        return answer;
    }

    public int rank(int task, int priority) {
        Task t = world.taskAt(task);
        if (t == null) {
            return NONE;
        }
        if (!mayBePriority(priority)) {
            return BAD;
        }
        if (t.state != READY) {
            return STATE;
        }
        int was = t.priority;
        t.priority = priority;
        return was + 100;
    }

    public int of(int task, int what) {
        Task t = world.taskAt(task);
        if (t == null) {
            return NONE;
        }
        switch (what) {
            case 0: return t.state;
            case 1: return t.priority + 100;
            case 2: return t.turns;
            case 3: return t.own;
            case 4: return world.scopesNotShutOf(task);
            case 5: return t.done;
            case 6: return t.asked ? 1 : 0;
            case 7: return stepsFrom(t.steps);
            default: return NONE;
        }
    }

    public int ready(int i) {
        return i < 0 ? NONE : world.readyAtPlace(i);
    }

    public int told(int what) {
        switch (what) {
            case 0: return world.scopeCount;
            case 1: return world.openScopes();
            case 2: return world.thingCount;
            case 3: return world.heldWithin(ROOT);
            case 4: return world.taskCount;
            case 5: return world.readyTasks();
            case 6: return world.turns;
            case 7: return world.log.size;
            case 8: return tape.size;
            case 9: return sheet.size;
            default: return NONE;
        }
    }

    // ---- rows, the image

    public int row(int row, int n) {
        Ints r = rowAt(row);
        if (r == null) {
            return NONE;
        }
        if (n > MOST_CELLS) {
            return BAD;
        }
        if (n < 0) {
            return BELOW;
        }
        r.becomeZeros(n);
        return 1;
    }

    public int set(int row, int i, int v) {
        Ints r = rowAt(row);
        if (r == null) {
            return NONE;
        }
        if (r.size == NOTHING) {
            return NOTHING;
        }
        if (!r.has(i)) {
            return BEYOND;
        }
        r.put(i, v);
        return 1;
    }

    public long get(int row, int i) {
        Ints r = rowAt(row);
        return r == null || !r.has(i) ? NO : r.at(i);
    }

    public int copy(int row, int i, int other, int j, int n) {
        Ints source = rowAt(row);
        Ints target = rowAt(other);
        if (source == null || target == null) {
            return NONE;
        }
        if (source.size == NOTHING || target.size == NOTHING) {
            return NOTHING;
        }
        if (!source.hasRange(i, n) || !target.hasRange(j, n)) {
            return BEYOND;
        }
        System.arraycopy(source.cells, i, target.cells, j, n);
        return n;
    }

    public int lay(int row, int i) {
        Ints r = rowAt(row);
        if (r == null) {
            return NONE;
        }
        if (r.size == NOTHING) {
            return NOTHING;
        }
        int laid = 0;
        while (laid < world.log.size && r.has(i + laid)) {
            r.put(i + laid, world.log.at(laid));
            laid++;
        }
        return laid < world.log.size ? BEYOND : laid;
    }

    public int judge(int row, int i) {
        Ints r = rowAt(row);
        if (r == null) {
            return NONE;
        }
        if (r.size == NOTHING) {
            return NOTHING;
        }
        for (int k = 0; k < world.log.size; k++) {
            if (!r.has(i + k)) {
                return ROW_ENDED + k;
            }
            if (r.at(i + k) != world.log.at(k)) {
                return world.log.at(k);
            }
        }
        return NOT_ANY;
    }

    public int image() {
        if (kept == null) {
            kept = new World();
        }
        kept.become(world);
        return world.heldWithin(ROOT);
    }

    public int undo() {
        if (kept == null) {
            return STATE;
        }
        world.become(kept);
        return world.heldWithin(ROOT);
    }

    /** One in whose world all is as it is now. */
    private Runner thinkerOfNow() {
        if (thinker == null) {
            thinker = new Runner();
        }
        thinker.world.become(world);
        return thinker;
    }

    private Ints rowAt(int n) {
        return n < 0 || n >= rows.length ? null : rows[n];
    }

    private static boolean mayBePriority(int priority) {
        return priority >= -MOST_PRIORITY && priority <= MOST_PRIORITY;
    }

    private static int stepsFrom(Step first) {
        int many = 0;
        for (Step s = first; s != null; s = s.next) {
            many++;
        }
        return many;
    }

    /** Letter i of a NAME, 0 where it has none. */
    private static int letterOf(long name, int i) {
        if (i < 0 || i >= MOST_LETTERS) {
            return 0;
        }
        int letter = (int) (name >> (5 * (MOST_LETTERS - 1 - i))) & 31;
        return letter == 0 ? 0 : letter + 'a' - 1;
    }

    private static int lettersOf(long name) {
        int many = 0;
        while (many < MOST_LETTERS && letterOf(name, many) != 0) {
            many++;
        }
        return many;
    }

    /** A row of ints with room for so many and no more; no place that isn't there is ever touched. */
    private static final class Ints {
        final int[] cells;
        int size;

        Ints(int room) {
            cells = new int[room < 0 ? 0 : room];
        }

        boolean has(int i) {
            return i >= 0 && i < size && i < cells.length;
        }

        boolean hasRange(int i, int n) {
            return i >= 0 && n >= 0 && i <= size && n <= size - i && size <= cells.length;
        }

        int at(int i) {
            return has(i) ? cells[i] : 0;
        }

        void put(int i, int v) {
            if (has(i)) {
                cells[i] = v;
            }
        }

        boolean append(int v) {
            if (size < 0 || size >= cells.length) {
                return false;
            }
            cells[size] = v;
            size++;
            return true;
        }

        /** Takes a value out, if it is there: what stands behind it comes one place ahead. */
        void drop(int value) {
            int kept = 0;
            for (int i = 0; i < size && i < cells.length; i++) {
                if (cells[i] != value) {
                    cells[kept] = cells[i];
                    kept++;
                }
            }
            size = kept;
        }

        void becomeZeros(int n) {
            size = n < 0 || n > cells.length ? 0 : n;
            for (int i = 0; i < size; i++) {
                cells[i] = 0;
            }
        }

        void become(Ints other) {
            size = other.size < cells.length ? other.size : cells.length;
            for (int i = 0; i < size && i < other.cells.length; i++) {
                cells[i] = other.cells[i];
            }
        }
    }

    /** One step as it was read, and the one behind it; none is changed once it has been read. */
    private static final class Step {
        /** The letter or sign with which it begins. */
        final int kind;
        /** Its counter, fault, scope or task. */
        int number;
        /** What comes to a counter, or what it must be below. */
        int value;
        long name;
        /** The first step of a closer, or the step behind a ?. */
        Step inner;
        Step next;

        Step(int kind) {
            this.kind = kind;
        }
    }

    private static final class Thing {
        /** Five bits a letter, the first one highest, 0 behind the last: so numbers stand as words do in a book. */
        long name;
        Step closer;
        /** The step of the closer that comes next, while it is CLOSING. */
        Step rest;
        int state;
        int owner;
        int place;

        void become(Thing other) {
            name = other.name;
            closer = other.closer;
            state = other.state;
            owner = other.owner;
            place = other.place;
        }
    }

    private static final class Scope {
        int state;
        int parent;
        int task;

        void become(Scope other) {
            state = other.state;
            parent = other.parent;
            task = other.task;
        }
    }

    private static final class Task {
        Step steps;
        /** The step that comes next. */
        Step rest;
        int done;
        int state;
        int priority;
        int turns;
        /** Which of all turns was its latest; 0: it never had one. */
        int latest;
        int own;
        /** The scope of the latest ( that is still open, or its own: the others stand above it as parents. */
        int inner;
        int fault;
        boolean asked;

        void start(Step first, int scope, int rank) {
            steps = first;
            rest = first;
            done = 0;
            state = READY;
            priority = rank;
            turns = 0;
            latest = 0;
            own = scope;
            inner = scope;
            fault = 0;
            asked = false;
        }

        void become(Task other) {
            start(other.steps, other.own, other.priority);
            rest = other.rest;
            done = other.done;
            state = other.state;
            turns = other.turns;
            latest = other.latest;
            inner = other.inner;
            fault = other.fault;
            asked = other.asked;
        }

        boolean comesAheadOf(Task other) {
            return priority != other.priority ? priority > other.priority : latest < other.latest;
        }
    }

    /**
     * All that closers gathered, in one row: a closer is done once and has one fault at most,
     * so there is room for all. Who gathered a fault stands with it: a task, or a call.
     */
    private static final class Faults {
        final Ints numbers = new Ints(MOST_THINGS);
        final Ints things = new Ints(MOST_THINGS);
        final Ints gatherers = new Ints(MOST_THINGS);
        /** Where the faults of the latest call begin. */
        int callBegin;

        void gather(int number, int thing, int by) {
            numbers.append(number);
            things.append(thing);
            gatherers.append(by);
        }

        void beginCall() {
            callBegin = numbers.size;
        }

        int gatheredBy(int by) {
            int many = 0;
            for (int i = by == BY_CALL ? callBegin : 0; i < numbers.size; i++) {
                if (gatherers.at(i) == by) {
                    many++;
                }
            }
            return many;
        }

        /** Where the i-th fault of a task or the latest call stands. */
        int placeOf(int by, int i) {
            int ahead = 0;
            for (int p = by == BY_CALL ? callBegin : 0; p < numbers.size; p++) {
                if (gatherers.at(p) == by) {
                    if (ahead == i) {
                        return p;
                    }
                    ahead++;
                }
            }
            return NONE;
        }

        void become(Faults other) {
            numbers.become(other.numbers);
            things.become(other.things);
            gatherers.become(other.gatherers);
            callBegin = other.callBegin;
        }
    }

    /** All that an image holds. */
    private static final class World {
        final Thing[] things = new Thing[MOST_THINGS];
        final Scope[] scopes = new Scope[MOST_SCOPES];
        final Task[] tasks = new Task[MOST_TASKS];
        int thingCount;
        int scopeCount;
        int taskCount;
        int turns;
        final Ints counters = new Ints(MOST_COUNTERS);
        final Ints log = new Ints(MOST_THINGS);
        /** The entries of all scopes, in the order in which they came: those of one stand in it in theirs. */
        final Ints entries = new Ints(MOST_THINGS + MOST_SCOPES);
        final Faults faults = new Faults();

        World() {
            for (int i = 0; i < things.length; i++) {
                things[i] = new Thing();
            }
            for (int i = 0; i < scopes.length; i++) {
                scopes[i] = new Scope();
            }
            for (int i = 0; i < tasks.length; i++) {
                tasks[i] = new Task();
            }
            counters.becomeZeros(MOST_COUNTERS);
            scopeCount = 1;
            Scope root = scopeAt(ROOT);
            if (root != null) {
                root.parent = NOT_ANY;
                root.task = NOT_ANY;
            }
        }

        void become(World other) {
            thingCount = other.thingCount;
            for (int i = 0; i < thingCount && i < things.length && i < other.things.length; i++) {
                things[i].become(other.things[i]);
            }
            scopeCount = other.scopeCount;
            for (int i = 0; i < scopeCount && i < scopes.length && i < other.scopes.length; i++) {
                scopes[i].become(other.scopes[i]);
            }
            taskCount = other.taskCount;
            for (int i = 0; i < taskCount && i < tasks.length && i < other.tasks.length; i++) {
                tasks[i].become(other.tasks[i]);
            }
            turns = other.turns;
            counters.become(other.counters);
            log.become(other.log);
            entries.become(other.entries);
            faults.become(other.faults);
        }

        Thing thingAt(int n) {
            return n < 0 || n >= thingCount || n >= things.length ? null : things[n];
        }

        Scope scopeAt(int n) {
            return n < 0 || n >= scopeCount || n >= scopes.length ? null : scopes[n];
        }

        Task taskAt(int n) {
            return n < 0 || n >= taskCount || n >= tasks.length ? null : tasks[n];
        }

        boolean thingsAreFull() {
            return thingCount >= things.length;
        }

        boolean scopesAreFull() {
            return scopeCount >= scopes.length;
        }

        boolean tasksAreFull() {
            return taskCount >= tasks.length;
        }

        /** A thing comes, with the name and the closer of a step a. */
        int addThing(Step text, int owner) {
            int n = thingCount;
            thingCount++;
            Thing t = thingAt(n);
            if (t == null) {
                thingCount = n;
                return NONE;
            }
            t.name = text.name;
            t.closer = text.inner;
            t.state = HELD;
            t.owner = owner;
            t.place = NOT_ANY;
            entries.append(n);
            return n;
        }

        int addScope(int parent, int task) {
            int n = scopeCount;
            scopeCount++;
            Scope s = scopeAt(n);
            if (s == null) {
                scopeCount = n;
                return NONE;
            }
            s.state = OPEN;
            s.parent = parent;
            s.task = task;
            entries.append(SCOPE_NODE + n);
            return n;
        }

        int addTask(Step steps, int parent, int priority) {
            int n = taskCount;
            taskCount++;
            Task t = taskAt(n);
            if (t == null) {
                taskCount = n;
                return NONE;
            }
            t.start(steps, addScope(parent, n), priority);
            return n;
        }

        void moveThing(int n, int scope) {
            Thing t = thingAt(n);
            if (t != null) {
                t.owner = scope;
                entries.drop(n);
                entries.append(n);
            }
        }

        boolean isOpen(int scope) {
            Scope s = scopeAt(scope);
            return s != null && s.state == OPEN;
        }

        private boolean isHeld(int n) {
            Thing t = thingAt(n);
            return t != null && t.state == HELD;
        }

        boolean isReady(int n) {
            Task t = taskAt(n);
            return t != null && t.state == READY;
        }

        /** The scope of which a thing or a scope is (or was) an entry. */
        private int ownerOf(int node) {
            if (node >= SCOPE_NODE) {
                Scope s = scopeAt(node - SCOPE_NODE);
                return s == null ? NONE : s.parent;
            }
            Thing t = thingAt(node);
            return t == null ? NONE : t.owner;
        }

        int entriesOf(int scope) {
            int many = 0;
            for (int i = 0; i < entries.size; i++) {
                if (ownerOf(entries.at(i)) == scope) {
                    many++;
                }
            }
            return many;
        }

        int entryAt(int scope, int i) {
            int ahead = 0;
            for (int p = 0; p < entries.size; p++) {
                if (ownerOf(entries.at(p)) == scope) {
                    if (ahead == i) {
                        return entries.at(p);
                    }
                    ahead++;
                }
            }
            return NONE;
        }

        /** The last entry of a scope that is HELD or OPEN; NONE if it has none. */
        int lastToEnd(int scope) {
            for (int p = entries.size - 1; p >= 0; p--) {
                int node = entries.at(p);
                boolean stands = node >= SCOPE_NODE ? isOpen(node - SCOPE_NODE) : isHeld(node);
                if (stands && ownerOf(node) == scope) {
                    return node;
                }
            }
            return NONE;
        }

        /** The i-th thing of the PLAN of a scope; how many there are for i -1; NONE beyond them. */
        int planned(int scope, int i) {
            int many = 0;
            int within = scope;
            int p = entries.size - 1;
            for (int round = 0; round < ENOUGH; round++) {
                if (p < 0) {
                    if (within == scope) {
                        break;
                    }
                    p = placeOfEntry(SCOPE_NODE + within) - 1;
                    within = ownerOf(SCOPE_NODE + within);
                } else if (ownerOf(entries.at(p)) != within) {
                    p--;
                } else if (entries.at(p) >= SCOPE_NODE) {
                    within = entries.at(p) - SCOPE_NODE;
                    p = entries.size - 1;
                } else {
                    if (many == i) {
                        return entries.at(p);
                    }
                    many++;
                    p--;
                }
            }
            return i == -1 ? many : NONE;
        }

        private int placeOfEntry(int node) {
            for (int p = 0; p < entries.size; p++) {
                if (entries.at(p) == node) {
                    return p;
                }
            }
            return NONE;
        }

        boolean isWithin(int scope, int other) {
            int s = scope;
            for (int i = 0; i < MOST_SCOPES && s >= 0; i++) {
                if (s == other) {
                    return true;
                }
                s = ownerOf(SCOPE_NODE + s);
            }
            return false;
        }

        int scopesAbove(int scope) {
            int many = 0;
            for (int s = ownerOf(SCOPE_NODE + scope); s >= 0 && many < MOST_SCOPES; many++) {
                s = ownerOf(SCOPE_NODE + s);
            }
            return many;
        }

        int heldWithin(int scope) {
            int many = 0;
            for (int n = 0; n < thingCount; n++) {
                if (isHeld(n) && isWithin(ownerOf(n), scope)) {
                    many++;
                }
            }
            return many;
        }

        int youngestWithin(int scope) {
            for (int n = thingCount - 1; n >= 0; n--) {
                if (isHeld(n) && isWithin(ownerOf(n), scope)) {
                    return n;
                }
            }
            return NOT_ANY;
        }

        int openScopes() {
            int many = 0;
            for (int n = 0; n < scopeCount; n++) {
                if (isOpen(n)) {
                    many++;
                }
            }
            return many;
        }

        private long nameOf(int n) {
            Thing t = thingAt(n);
            return t == null ? 0 : t.name;
        }

        int heldWithName(long name) {
            for (int n = 0; n < thingCount && n < things.length; n++) {
                if (things[n].state == HELD && things[n].name == name) {
                    return n;
                }
            }
            return NOT_ANY;
        }

        /** The held thing with the least name that isn't less than the bytes of a text. */
        int heldFrom(Ints text) {
            int least = NOT_ANY;
            for (int n = 0; n < thingCount; n++) {
                if (isHeld(n) && !isLess(nameOf(n), text) && (least < 0 || nameOf(n) < nameOf(least))) {
                    least = n;
                }
            }
            return least;
        }

        private static boolean isLess(long name, Ints text) {
            for (int i = 0; i <= MOST_LETTERS; i++) {
                int letter = letterOf(name, i);
                if (letter != text.at(i)) {
                    return letter < text.at(i);
                }
            }
            return false;
        }

        /** The held thing ahead of whose name so many names of held ones stand. */
        int heldAtPlace(int i) {
            for (int n = 0; n < thingCount; n++) {
                if (isHeld(n) && heldAhead(nameOf(n)) == i) {
                    return n;
                }
            }
            return NONE;
        }

        private int heldAhead(long name) {
            int many = 0;
            for (int n = 0; n < thingCount; n++) {
                if (isHeld(n) && nameOf(n) < name) {
                    many++;
                }
            }
            return many;
        }

        int readyTasks() {
            int many = 0;
            for (int n = 0; n < taskCount; n++) {
                if (isReady(n)) {
                    many++;
                }
            }
            return many;
        }

        /** The ready task whose turn so many turns of other ones come ahead of. */
        int readyAtPlace(int i) {
            for (int n = 0; n < taskCount; n++) {
                if (isReady(n) && readyAhead(n) == i) {
                    return n;
                }
            }
            return NOT_ANY;
        }

        private int readyAhead(int n) {
            Task t = taskAt(n);
            int many = 0;
            for (int m = 0; m < taskCount; m++) {
                Task other = taskAt(m);
                if (t != null && other != null && other.state == READY
                        && (other.comesAheadOf(t) || m < n && !t.comesAheadOf(other))) {
                    many++;
                }
            }
            return many;
        }

        int scopesNotShutOf(int task) {
            int many = 0;
            for (int n = 0; n < scopeCount; n++) {
                Scope s = scopeAt(n);
                if (s != null && s.task == task && s.state != SHUT) {
                    many++;
                }
            }
            return many;
        }

        /** The fault of its own that a task has; 0: none. */
        private int ownFault(int by) {
            Task t = taskAt(by);
            return t == null ? 0 : t.fault;
        }

        int faultCount(int by) {
            return faults.gatheredBy(by) + (ownFault(by) == 0 ? 0 : 1);
        }

        /** The i-th fault of a task or the latest call; 0: there is none. */
        int faultNumber(int by, int i) {
            int own = ownFault(by);
            if (own != 0 && i == 0) {
                return own;
            }
            return faults.numbers.at(faults.placeOf(by, own == 0 ? i : i - 1));
        }

        int faultThing(int by, int i) {
            int own = ownFault(by);
            int place = own != 0 && i == 0 ? NONE : faults.placeOf(by, own == 0 ? i : i - 1);
            return place < 0 ? NO_THING : faults.things.at(place);
        }
    }

    /**
     * Closes things, shuts scopes and gives tasks their turns. What is at work stands in a row,
     * the innermost last: closers that close others stand behind one another in it, so no call
     * goes deep however many they are.
     */
    private static final class Runner {
        final World world = new World();
        private final Ints atWork = new Ints(MOST_THINGS + MOST_SCOPES + MOST_TASKS);
        /** Who gathers the faults: a task, or a call. */
        private int by;

        /** Closes a thing or shuts a scope for a call: how many faults that gathers. */
        int endInCall(int node) {
            by = BY_CALL;
            world.faults.beginCall();
            beginToEnd(node);
            work();
            return world.faultCount(BY_CALL);
        }

        int tickUpTo(int most) {
            int many = 0;
            while (many < most && beginTurn() >= 0) {
                work();
                many++;
            }
            return many;
        }

        /** The task that had a turn. */
        int tickOnce() {
            int n = beginTurn();
            work();
            return n;
        }

        private int beginTurn() {
            int n = world.readyAtPlace(0);
            Task t = world.taskAt(n);
            if (t == null) {
                return NOT_ANY;
            }
            world.turns++;
            t.turns++;
            t.latest = world.turns;
            // the other scopes of the task are above its innermost one: were one shut, this would be, too
            if (t.asked || !world.isOpen(t.inner)) {
                t.state = CANCELLED;
            }
            by = n;
            atWork.append(TASK_NODE + n);
            return n;
        }

        private void work() {
            for (int round = 0; round < ENOUGH && atWork.size > 0; round++) {
                int node = atWork.at(atWork.size - 1);
                if (node >= TASK_NODE) {
                    goOnWithTask(node - TASK_NODE);
                } else if (node >= SCOPE_NODE) {
                    goOnShutting(node - SCOPE_NODE);
                } else {
                    goOnClosing(node);
                }
            }
            atWork.size = 0;
        }

        private void leave() {
            if (atWork.size > 0) {
                atWork.size--;
            }
        }

        /** From here on a held thing is CLOSING, or an open scope SHUTTING. */
        private void beginToEnd(int node) {
            if (node >= SCOPE_NODE) {
                Scope s = world.scopeAt(node - SCOPE_NODE);
                if (s != null) {
                    s.state = SHUTTING;
                }
            } else {
                Thing t = world.thingAt(node);
                if (t != null) {
                    t.state = CLOSING;
                    t.rest = t.closer;
                }
            }
            atWork.append(node);
        }

        private void goOnClosing(int n) {
            Thing t = world.thingAt(n);
            if (t == null) {
                leave();
                return;
            }
            Step step = t.rest;
            if (step == null) {
                t.state = CLOSED;
                t.place = world.log.size;
                world.log.append(n);
                world.entries.drop(n);
                leave();
                return;
            }
            t.rest = step.next;
            int fault = perform(step, t.owner);
            if (fault != 0) {
                world.faults.gather(fault, n, by);
                t.rest = null;
            }
        }

        private void goOnShutting(int n) {
            int last = world.lastToEnd(n);
            if (last >= 0) {
                beginToEnd(last);
                return;
            }
            Scope s = world.scopeAt(n);
            if (s != null) {
                s.state = n == ROOT ? OPEN : SHUT;
                world.entries.drop(SCOPE_NODE + n);
            }
            leave();
        }

        private void goOnWithTask(int n) {
            Task t = world.taskAt(n);
            if (t == null) {
                leave();
                return;
            }
            if (t.state != READY) {
                goOnShuttingScopesOf(t);
                return;
            }
            Step step = t.rest;
            if (step == null) {
                t.state = world.faultCount(n) == 0 ? DONE : FAILED;
                return;
            }
            int fault = perform(step, t.inner);
            if (fault != 0) {
                t.fault = fault;
                t.state = FAILED;
                return;
            }
            t.rest = step.next;
            t.done++;
            if (step.kind == '.' && step.next != null) {
                leave();
            }
        }

        /** The scopes of a task that is over are shut one after the other, the innermost first. */
        private void goOnShuttingScopesOf(Task t) {
            Scope s = world.scopeAt(t.inner);
            if (s != null && s.state == OPEN) {
                beginToEnd(SCOPE_NODE + t.inner);
            } else if (s == null || t.inner == t.own) {
                leave();
            } else {
                t.inner = s.parent;
            }
        }

        /** Does a step in a scope: its fault, or 0. What it closes is only put to work by it. */
        private int perform(Step step, int scope) {
            Step s = step;
            if (s.kind == '?') {
                s = world.counters.at(s.number) < s.value ? s.inner : null;
            }
            if (s == null) {
                return 0;
            }
            switch (s.kind) {
                case '+':
                    world.counters.put(s.number, world.counters.at(s.number) + s.value);
                    return 0;
                case '!': return s.number;
                case 'a': return takeInto(scope, s);
                case 'x': return closeNamed(s.name);
                case 'm': return moveNamed(s.name, s.number);
                case 'k': return askToCancel(s.number);
                case '(': return openInner();
                case ')': return shutInner();
                default: return 0;
            }
        }

        private int takeInto(int scope, Step s) {
            if (!world.isOpen(scope)) {
                return NOT_OPEN;
            }
            if (world.heldWithName(s.name) >= 0) {
                return NAME_HELD;
            }
            if (world.thingsAreFull()) {
                return THINGS_FULL;
            }
            world.addThing(s, scope);
            return 0;
        }

        private int closeNamed(long name) {
            int n = world.heldWithName(name);
            if (n < 0) {
                return NAME_NOT_HELD;
            }
            beginToEnd(n);
            return 0;
        }

        private int moveNamed(long name, int scope) {
            int n = world.heldWithName(name);
            if (n < 0) {
                return NAME_NOT_HELD;
            }
            if (!world.isOpen(scope)) {
                return NO_OPEN_SCOPE;
            }
            world.moveThing(n, scope);
            return 0;
        }

        /** Only tasks have ( and ): the one whose turn it is gathers the faults, too. */
        private int openInner() {
            Task t = world.taskAt(by);
            if (t == null) {
                return 0;
            }
            if (world.scopesAreFull()) {
                return SCOPES_FULL;
            }
            if (!world.isOpen(t.inner)) {
                return NOT_OPEN;
            }
            t.inner = world.addScope(t.inner, by);
            return 0;
        }

        private int shutInner() {
            Task t = world.taskAt(by);
            Scope s = t == null ? null : world.scopeAt(t.inner);
            if (t == null || s == null || t.inner == t.own) {
                return 0;
            }
            if (s.state == OPEN) {
                beginToEnd(SCOPE_NODE + t.inner);
            }
            t.inner = s.parent;
            return 0;
        }

        private int askToCancel(int n) {
            Task t = world.taskAt(n);
            if (t == null || t.state != READY) {
                return NO_READY_TASK;
            }
            t.asked = true;
            return 0;
        }
    }

    /**
     * Reads the tape from the left. Behind the first fault it stands at the end of the tape,
     * where whatever else is looked for isn't: so nothing more is read, and no later fault told.
     */
    private static final class Reader {
        final Ints tape = new Ints(MOST_BYTES);
        private int place;
        /** The place of the first fault; below 0: there was none. */
        int fault;
        /** How many ( are open. */
        private int opened;

        /** NAME or NAME=STEPS, as the step a that would take it; null: a fault. */
        Step readThing() {
            begin();
            Step thing = new Step('a');
            thing.name = readName();
            if (here() != END_OF_TEXT) {
                expect('=');
                thing.inner = readSteps(1, END_OF_TEXT);
            }
            return fault < 0 ? thing : null;
        }

        /** The first of the steps of a task; null: a fault. */
        Step readTask() {
            begin();
            Step first = readSteps(0, END_OF_TEXT);
            return fault < 0 ? first : null;
        }

        long readWholeName() {
            begin();
            long name = readName();
            if (here() != END_OF_TEXT) {
                failAt(place);
            }
            return name;
        }

        private void begin() {
            place = 0;
            fault = -1;
            opened = 0;
        }

        private int here() {
            boolean stands = place >= 0 && place < tape.size && place < tape.cells.length;
            return stands ? tape.cells[place] : END_OF_TEXT;
        }

        private void failAt(int where) {
            if (fault < 0) {
                fault = where;
            }
            place = tape.size;
        }

        private void expect(int sign) {
            if (here() == sign) {
                place++;
            } else {
                failAt(place);
            }
        }

        /** Steps up to a sign (which stays), that many braces deep. */
        private Step readSteps(int braces, int end) {
            Step first = readStep(braces, false);
            Step last = first;
            for (int parts = 1; parts < MOST_BYTES && last != null && here() == ';'; parts++) {
                place++;
                last.next = readStep(braces, false);
                last = last.next;
            }
            if (here() != end || end == END_OF_TEXT && opened > 0) {
                failAt(place);
            }
            return first;
        }

        private Step readStep(int braces, boolean guarded) {
            int kind = here();
            if (!mayBegin(kind, braces, guarded)) {
                failAt(place);
                return null;
            }
            place++;
            Step s = new Step(kind);
            switch (kind) {
                case '+':
                    s.number = readFigure(MOST_COUNTERS);
                    expect('=');
                    s.value = readValue();
                    break;
                case '!': s.number = readFaultNumber(); break;
                case 'a':
                    s.name = readName();
                    s.inner = readCloser(braces);
                    break;
                case 'x': s.name = readName(); break;
                case 'm':
                    s.name = readName();
                    expect('>');
                    s.number = readFigures(2);
                    break;
                case 'k': s.number = readFigure(10); break;
                case '?':
                    s.number = readFigure(MOST_COUNTERS);
                    expect('<');
                    s.value = readValue();
                    expect(':');
                    s.inner = readStep(braces, true);
                    break;
                case '(': opened++; break;
                case ')': opened--; break;
                default: break;
            }
            return s;
        }

        private boolean mayBegin(int kind, int braces, boolean guarded) {
            switch (kind) {
                case '+': case '!': case 'a': case 'x': case 'm': case 'k': case '.': return true;
                case '?': return !guarded;
                case '(': return !guarded && braces == 0;
                case ')': return !guarded && braces == 0 && opened > 0;
                default: return false;
            }
        }

        /** {STEPS}, if it stands here and may; a { that may not is left for the one who looks behind the step. */
        private Step readCloser(int braces) {
            if (here() != '{' || braces >= MOST_BRACES) {
                return null;
            }
            place++;
            Step first = readSteps(braces + 1, '}');
            expect('}');
            return first;
        }

        private long readName() {
            if (!isLetter(here())) {
                failAt(place);
            }
            long name = 0;
            for (int i = 0; i < MOST_LETTERS; i++) {
                name <<= 5;
                if (isLetter(here())) {
                    name += here() - 'a' + 1;
                    place++;
                }
            }
            return name;
        }

        private static boolean isLetter(int sign) {
            return sign >= 'a' && sign <= 'z';
        }

        /** One figure, below a limit. */
        private int readFigure(int limit) {
            int figure = here() - '0';
            if (figure < 0 || figure >= limit) {
                failAt(place);
                return 0;
            }
            place++;
            return figure;
        }

        private int readFigures(int most) {
            int number = 0;
            int many = 0;
            while (many < most && here() >= '0' && here() <= '9') {
                number = number * 10 + here() - '0';
                place++;
                many++;
            }
            if (many == 0) {
                failAt(place);
            }
            return number;
        }

        private int readValue() {
            boolean minus = here() == '-';
            if (minus) {
                place++;
            }
            int number = readFigures(5);
            return minus ? -number : number;
        }

        private int readFaultNumber() {
            int begin = place;
            int number = readFigures(2);
            if (number == 0) {
                failAt(begin);
            }
            return number;
        }
    }

    /** Writes steps as they are spelled. */
    private static final class Speller {
        final Ints sheet = new Ints(MOST_BYTES);

        /** What stood there goes; how many bytes stand there then. */
        int write(Step first) {
            sheet.size = 0;
            writeSteps(first, 0);
            return sheet.size;
        }

        private void writeSteps(Step first, int nesting) {
            for (Step s = first; s != null; s = s.next) {
                writeStep(s, nesting);
                if (s.next != null) {
                    sheet.append(';');
                }
            }
        }

        private void writeStep(Step s, int nesting) {
            if (s == null || nesting > MOST_NESTING) {
                return;
            }
            sheet.append(s.kind);
            switch (s.kind) {
                case '+': writeSetting(s, '='); break;
                case '!': case 'k': writeNumber(s.number); break;
                case 'a':
                    writeName(s.name);
                    writeCloser(s.inner, nesting);
                    break;
                case 'x': writeName(s.name); break;
                case 'm':
                    writeName(s.name);
                    sheet.append('>');
                    writeNumber(s.number);
                    break;
                case '?':
                    writeSetting(s, '<');
                    sheet.append(':');
                    writeStep(s.inner, nesting + 1);
                    break;
                default: break;
            }
        }

        private void writeSetting(Step s, int between) {
            writeNumber(s.number);
            sheet.append(between);
            writeNumber(s.value);
        }

        private void writeCloser(Step first, int nesting) {
            if (first != null) {
                sheet.append('{');
                writeSteps(first, nesting + 1);
                sheet.append('}');
            }
        }

        private void writeName(long name) {
            for (int i = 0; i < lettersOf(name); i++) {
                sheet.append(letterOf(name, i));
            }
        }

        private void writeNumber(int number) {
            int left = number < 0 ? -number : number;
            if (number < 0) {
                sheet.append('-');
            }
            for (int power = 10000; power > 0; power /= 10) {
                if (left >= power || power == 1) {
                    sheet.append('0' + left / power % 10);
                }
            }
        }
    }
}
