/** Promises 30 to 45, sentence by sentence, at their edges: tasks, rows, the image. */
public final class TaskPromisesEdgesTest {
    private static final int NONE = ScopeWarden.NONE, BAD = ScopeWarden.BAD, STATE = ScopeWarden.STATE;
    private static final int FULL = ScopeWarden.FULL, MIN = Integer.MIN_VALUE, MAX = Integer.MAX_VALUE;
    private static final int NOTHING = -11, BEYOND = -13, BELOW = -14;

    public static void main(String[] args) {
        promise30();
        promise30WhenFull();
        promise31();
        promise32();
        promise33();
        promise34();
        promise35();
        promise35States();
        promise35Steps();
        promise36();
        promise37();
        promise38();
        promise39();
        promise40();
        promise41();
        promise41Beyond();
        promise42();
        promise43();
        promise44();
        promise45();
        promise45ComeAgain();
        for (int n = 30; n <= 45; n++) {
            Doc.isQuoted("Promise " + n);
        }
        Due.end();
    }

    private static void says(int promise, String words) {
        Doc.says("Promise " + promise, words);
    }

    private static void of(ScopeWarden x, int task, int what, int due) {
        Due.is("of(" + task + ", " + what + ")", x.of(task, what), due);
    }

    /** One with THE LOG 0 1 2 .. (so many). */
    private static ScopeWarden logged(int many) {
        ScopeWarden x = new ScopeWarden();
        for (int i = 0; i < many; i++) {
            Due.take(x, 0, "a");
            x.close(i);
        }
        return x;
    }

    private static String row(ScopeWarden x, int row) {
        StringBuilder b = new StringBuilder();
        for (int i = 0; x.get(row, i) != ScopeWarden.NO; i++) {
            b.append(i == 0 ? "" : " ").append(x.get(row, i));
        }
        return b.toString();
    }

    private static String points(int many) {
        StringBuilder b = new StringBuilder(".");
        for (int i = 1; i < many; i++) {
            b.append(";.");
        }
        return b.toString();
    }

    private static void promise30() {
        says(30, "A TASK comes, its SCOPE one with a PARENT; THE TAPE is its STEPS: its number; -100 less the FAULT.");
        ScopeWarden x = new ScopeWarden();
        x.open(0);
        x.open(0);
        Due.is("the first", Due.task(x, 1, -99, "."), 0);
        Due.is("the next, in its scope", Due.task(x, 3, 99, "+0=1;xq"), 1);
        Due.is("the parent of the first one's", x.scope(3, 1), 1);
        Due.is("the parent of the next one's", x.scope(4, 1), 3);
        Due.is("its steps", Due.steps(x, 1), "+0=1;xq");
        String before = Due.world(x);
        Due.is("of no steps", Due.task(x, 0, 0, ""), -100);
        Due.is("of a fault", Due.task(x, 0, 0, "(;."), -103);
        Due.is("a task with a fault brings no scope", Due.world(x), before);
        x.shut(2);
        Due.put(x, "!0");
        says(30, "NONE: parent;");
        Due.refused("task(5, 0)", x, NONE, () -> x.task(5, 0));
        Due.refused("task(-1, 0)", x, NONE, () -> x.task(-1, 0));
        Due.refused("task(MAX, 100)", x, NONE, () -> x.task(MAX, 100));
        says(30, "BAD: priority;");
        Due.refused("task(0, 100)", x, BAD, () -> x.task(0, 100));
        Due.refused("task(0, -100)", x, BAD, () -> x.task(0, -100));
        Due.refused("task(0, MAX)", x, BAD, () -> x.task(0, MAX));
        Due.refused("task(0, MIN)", x, BAD, () -> x.task(0, MIN));
        Due.refused("task(2, 100)", x, BAD, () -> x.task(2, 100));
        says(30, "STATE: the PARENT isn't OPEN;");
        Due.refused("task(2, 99)", x, STATE, () -> x.task(2, 99));
    }

    private static void promise30WhenFull() {
        says(30, "FULL: 10 TASKS, or 60 SCOPES, were there (THE TAPE stays behind these).");
        ScopeWarden x = new ScopeWarden();
        for (int t = 0; t < 10; t++) {
            Due.is("task", Due.task(x, 0, 0, "."), t);
        }
        Due.put(x, "!0");
        Due.refused("an 11th", x, FULL, () -> x.task(0, 0));
        x.run(1);
        Due.refused("an 11th, in a SHUT one", x, STATE, () -> x.task(1, 0));
        ScopeWarden y = new ScopeWarden();
        for (int n = 1; n < 59; n++) {
            y.open(0);
        }
        Due.is("the 60th scope", Due.task(y, 0, 0, "."), 0);
        y.tick();
        Due.put(y, ".");
        Due.refused("the 61st scope", y, FULL, () -> y.task(0, 0));
        Due.refused("the 61st scope, in a SHUT one", y, STATE, () -> y.task(59, 0));
        Due.is("told(8)", y.told(8), 1);
        ScopeWarden z = new ScopeWarden();
        for (int n = 1; n < 60; n++) {
            z.open(0);
        }
        Due.put(z, ".");
        Due.refused("the 61st scope", z, FULL, () -> z.task(0, 0));
        Due.is("told(4)", z.told(4), 0);
    }

    private static void promise31() {
        says(31, "A TICK: which TASK had a TURN; -5: none is READY.");
        ScopeWarden x = new ScopeWarden();
        Due.refused("of none", x, -5, x::tick);
        Due.task(x, 0, 0, ".;.");
        Due.task(x, 0, 1, "!1");
        Due.task(x, 0, -1, "+0=1");
        x.cancel(2);
        int[] due = {1, 0, 0, 2};
        for (int t : due) {
            Due.is("tick", x.tick(), t);
        }
        Due.refused("when all are over", x, -5, x::tick);
        Due.is("told(6)", x.told(6), 4);
    }

    private static void promise32() {
        says(32, "TICKS, till none is READY, n at most (0 .. 100): how many.");
        ScopeWarden x = new ScopeWarden();
        Due.refused("of none", x, 0, () -> x.run(100));
        for (int t = 0; t < 2; t++) {
            Due.task(x, 0, 0, points(60));
        }
        Due.refused("run(0)", x, 0, () -> x.run(0));
        Due.is("run(1)", x.run(1), 1);
        Due.is("run(100)", x.run(100), 100);
        Due.is("told(6)", x.told(6), 101);
        Due.is("run(18)", x.run(18), 18);
        Due.is("told(5)", x.told(5), 1);
        Due.is("run(2), with one left", x.run(2), 1);
        Due.is("told(5)", x.told(5), 0);
        says(32, "BAD.");
        Due.refused("run(101)", x, BAD, () -> x.run(101));
        Due.refused("run(-1)", x, BAD, () -> x.run(-1));
        Due.refused("run(MAX)", x, BAD, () -> x.run(MAX));
        Due.refused("run(MIN)", x, BAD, () -> x.run(MIN));
    }

    private static void promise33() {
        says(33, "A TASK is asked to be CANCELLED: 1, or 0, if it was ahead of that.");
        ScopeWarden x = new ScopeWarden();
        Due.task(x, 0, 0, "+0=1;.;+0=1");
        Due.task(x, 0, 1, "k0;.;.");
        Due.is("cancel(1)", x.cancel(1), 1);
        Due.refused("cancel(1) again", x, 0, () -> x.cancel(1));
        of(x, 1, 6, 1);
        of(x, 1, 0, 0);
        x.tick();
        Due.is("its steps are not done", x.cancel(0), 1);
        Due.task(x, 0, 1, "k3;.");
        Due.task(x, 0, 0, ".");
        x.tick();
        Due.refused("cancel of one that a step asked for", x, 0, () -> x.cancel(3));
        says(33, "NONE;");
        Due.refused("cancel(4)", x, NONE, () -> x.cancel(4));
        Due.refused("cancel(-1)", x, NONE, () -> x.cancel(-1));
        Due.refused("cancel(MAX)", x, NONE, () -> x.cancel(MAX));
        says(33, "STATE: it is over.");
        x.run(100);
        Due.refused("cancel of a cancelled one", x, STATE, () -> x.cancel(1));
        Due.refused("cancel of a done one", x, STATE, () -> x.cancel(2));
    }

    private static void promise34() {
        says(34, "A TASK gets another PRIORITY: what it was + 100.");
        ScopeWarden x = new ScopeWarden();
        Due.task(x, 0, 0, ".;.;.");
        Due.task(x, 0, 1, ".");
        Due.is("from 0", x.rank(0, 99), 100);
        Due.is("from the greatest", x.rank(0, -99), 199);
        Due.is("from the least", x.rank(0, -99), 1);
        Due.is("the same", x.rank(0, 2), 1);
        of(x, 0, 1, 102);
        Due.is("it is ahead", x.tick(), 0);
        x.cancel(0);
        Due.is("of one that is asked for", x.rank(0, 0), 102);
        Due.is("the other is ahead", x.tick(), 1);
        says(34, "NONE;");
        Due.refused("rank(2, 0)", x, NONE, () -> x.rank(2, 0));
        Due.refused("rank(-1, 100)", x, NONE, () -> x.rank(-1, 100));
        says(34, "BAD;");
        Due.refused("one above the greatest", x, BAD, () -> x.rank(0, 100));
        Due.refused("one below the least", x, BAD, () -> x.rank(0, -100));
        Due.refused("rank(0, MIN)", x, BAD, () -> x.rank(0, MIN));
        Due.refused("rank(0, MAX)", x, BAD, () -> x.rank(0, MAX));
        Due.refused("of one that is over", x, BAD, () -> x.rank(1, 100));
        says(34, "STATE: it is over.");
        Due.refused("rank(1, 99)", x, STATE, () -> x.rank(1, 99));
    }

    private static void promise35() {
        says(35, "NONE: task, what.");
        ScopeWarden x = new ScopeWarden();
        of(x, 0, 0, NONE);
        Due.task(x, 0, 0, ".");
        of(x, 1, 0, NONE);
        of(x, -1, 0, NONE);
        of(x, MIN, 0, NONE);
        of(x, MAX, 0, NONE);
        of(x, 0, 8, NONE);
        of(x, 0, -1, NONE);
        of(x, 0, MIN, NONE);
        of(x, 0, MAX, NONE);
    }

    private static void promise35States() {
        says(35, "Of a TASK what 0 READY (0), DONE (1), FAILED (2), CANCELLED (3), 1 PRIORITY and 100, 2 how many TURNS it "
                + "had, 3 the number of its own SCOPE, 4 how many of its SCOPES are not SHUT,");
        ScopeWarden x = new ScopeWarden();
        Due.task(x, 0, 99, "(;(;.;);.;);(;.;)");
        Due.task(x, 0, -99, "!1");
        Due.task(x, 0, 0, ".");
        x.cancel(2);
        int[] notShut = {1, 3, 2, 2, 0};
        int[] all = {4, 6, 6, 7, 7};
        for (int i = 0; i < notShut.length; i++) {
            of(x, 0, 0, i < 4 ? 0 : 1);
            of(x, 0, 1, 199);
            of(x, 0, 2, i);
            of(x, 0, 3, 1);
            of(x, 0, 4, notShut[i]);
            Due.is("told(0)", x.told(0), all[i]);
            Due.is("tick", x.tick(), i < 4 ? 0 : 2);
        }
        x.tick();
        int[] states = {1, 2, 3};
        int[] ranks = {199, 1, 100};
        int[] turns = {4, 1, 1};
        for (int t = 0; t < 3; t++) {
            of(x, t, 0, states[t]);
            of(x, t, 1, ranks[t]);
            of(x, t, 2, turns[t]);
            of(x, t, 3, t + 1);
            of(x, t, 4, 0);
        }
        ScopeWarden y = new ScopeWarden();
        Due.task(y, 0, 0, "(;.;)");
        y.tick();
        y.open(2);
        of(y, 0, 4, 2);
        y.shut(2);
        of(y, 0, 4, 1);
        y.shut(1);
        of(y, 0, 4, 0);
        of(y, 0, 0, 0);
    }

    private static void promise35Steps() {
        says(35, "5 how many STEPS are done (a ? counts, too, whatever it says; one with a FAULT doesn't), 6 whether it was "
                + "asked to be CANCELLED, 7 how many STEPS it has.");
        ScopeWarden x = new ScopeWarden();
        Due.task(x, 0, 0, "?0<1:+0=1;?0<1:+1=1;.;aa{!1;+0=1};xa;?0<9:xq;+1=1");
        Due.task(x, 0, 0, points(60));
        of(x, 0, 5, 0);
        of(x, 0, 7, 7);
        of(x, 1, 7, 60);
        x.run(2);
        of(x, 0, 5, 3);
        of(x, 1, 5, 1);
        of(x, 0, 6, 0);
        x.tick();
        of(x, 0, 5, 5);
        of(x, 0, 0, 2);
        of(x, 0, 7, 7);
        x.run(58);
        of(x, 1, 5, 59);
        x.tick();
        of(x, 1, 5, 60);
        of(x, 1, 0, 1);
        Due.task(x, 0, 0, "k2;.;.");
        x.tick();
        of(x, 2, 6, 1);
        of(x, 2, 5, 2);
        x.tick();
        of(x, 2, 6, 1);
        of(x, 2, 5, 2);
        of(x, 2, 0, 3);
    }

    private static void promise36() {
        says(36, "The TASK that would have the i-th of the TURNS to come, were each over behind it; -5: there are fewer.");
        ScopeWarden x = new ScopeWarden();
        Due.is("of none", x.ready(0), -5);
        for (int t = 0; t < 10; t++) {
            Due.task(x, 0, t / 5, ".;.");
        }
        x.run(2);
        x.rank(0, 1);
        x.cancel(9);
        int[] due = {0, 7, 8, 9, 5, 6, 1, 2, 3, 4, -5, -5};
        for (int i = 0; i < due.length; i++) {
            Due.is("ready(" + i + ")", x.ready(i), due[i]);
        }
        Due.is("ready(MAX)", x.ready(MAX), -5);
        Due.is("the first is the next", x.tick(), 0);
        x.run(100);
        Due.is("when all are over", x.ready(0), -5);
        says(36, "NONE: i below 0.");
        Due.is("ready(-1)", x.ready(-1), NONE);
        Due.is("ready(-5)", x.ready(-5), NONE);
        Due.is("ready(MIN)", x.ready(MIN), NONE);
    }

    private static void promise37() {
        says(37, "What 0 SCOPES in all, 1 OPEN ones, 2 THINGS in all, 3 HELD ones, 4 TASKS, 5 READY ones, 6 TURNS in all, 7 "
                + "THE LOG, 8 bytes of THE TAPE, 9 of THE PAPER.");
        ScopeWarden x = new ScopeWarden();
        x.open(0);
        x.open(0);
        x.shut(1);
        for (int n = 0; n < 7; n++) {
            Due.take(x, 2, "a" + (char) ('a' + n) + "=.;.;.;.;.");
        }
        x.close(0);
        x.close(2);
        Due.task(x, 0, 1, ".;.;.");
        Due.task(x, 0, 0, ".");
        x.run(2);
        x.rank(0, -1);
        x.run(1);
        Due.put(x, "abcdefgh");
        x.spell(0);
        int[] due = {5, 3, 7, 5, 2, 1, 3, 2, 8, 9};
        for (int what = 0; what < due.length; what++) {
            Due.is("told(" + what + ")", x.told(what), due[what]);
        }
        says(37, "NONE.");
        Due.is("told(10)", x.told(10), NONE);
        Due.is("told(-1)", x.told(-1), NONE);
        Due.is("told(MIN)", x.told(MIN), NONE);
        Due.is("told(MAX)", x.told(MAX), NONE);
    }

    private static void promise38() {
        says(38, "A ROW becomes a row of n ints, all 0: 1.");
        ScopeWarden x = new ScopeWarden();
        Due.is("of 0", x.row(0, 0), 1);
        Due.is("it", row(x, 0), "");
        Due.is("of 1", x.row(3, 1), 1);
        Due.is("it", row(x, 3), "0");
        Due.is("of 40", x.row(3, 40), 1);
        for (int i = 0; i < 40; i++) {
            Due.is("set(3, " + i + ")", x.set(3, i, i + 1), 1);
        }
        Due.is("of 40 again", x.row(3, 40), 1);
        for (int i = 0; i < 40; i++) {
            Due.is("get(3, " + i + ")", x.get(3, i), 0);
        }
        x.set(3, 0, 9);
        Due.is("a shorter one", x.row(3, 2), 1);
        Due.is("it", row(x, 3), "0 0");
        Due.is("another", x.set(1, 0, 1), NOTHING);
        says(38, "NONE: row;");
        Due.refused("row(4, 1)", x, NONE, () -> x.row(4, 1));
        Due.refused("row(-1, 1)", x, NONE, () -> x.row(-1, 1));
        Due.refused("row(4, 41)", x, NONE, () -> x.row(4, 41));
        Due.refused("row(MIN, -1)", x, NONE, () -> x.row(MIN, -1));
        says(38, "BAD: n above 40;");
        Due.refused("row(3, 41)", x, BAD, () -> x.row(3, 41));
        Due.refused("row(3, MAX)", x, BAD, () -> x.row(3, MAX));
        says(38, "BELOW.");
        Due.refused("row(3, -1)", x, BELOW, () -> x.row(3, -1));
        Due.refused("row(3, MIN)", x, BELOW, () -> x.row(3, MIN));
    }

    private static void promise39() {
        says(39, "Place i of a ROW becomes v: 1.");
        ScopeWarden x = new ScopeWarden();
        x.row(0, 40);
        x.row(2, 0);
        Due.is("the first", x.set(0, 0, MIN), 1);
        Due.is("the last", x.set(0, 39, MAX), 1);
        Due.is("the first", x.get(0, 0), MIN);
        Due.is("the last", x.get(0, 39), MAX);
        Due.is("none else", x.get(0, 1) + x.get(0, 38), 0);
        says(39, "NONE;");
        Due.refused("set(4, 0)", x, NONE, () -> x.set(4, 0, 1));
        Due.refused("set(-1, 0)", x, NONE, () -> x.set(-1, 0, 1));
        Due.refused("set(MAX, MAX)", x, NONE, () -> x.set(MAX, MAX, 1));
        says(39, "NOTHING;");
        Due.refused("set(1, 0)", x, NOTHING, () -> x.set(1, 0, 1));
        Due.refused("set(1, -1)", x, NOTHING, () -> x.set(1, -1, 1));
        says(39, "BEYOND.");
        Due.refused("set(0, 40)", x, BEYOND, () -> x.set(0, 40, 1));
        Due.refused("set(0, -1)", x, BEYOND, () -> x.set(0, -1, 1));
        Due.refused("set(0, MIN)", x, BEYOND, () -> x.set(0, MIN, 1));
        Due.refused("set(0, MAX)", x, BEYOND, () -> x.set(0, MAX, 1));
        Due.refused("set(2, 0)", x, BEYOND, () -> x.set(2, 0, 1));
    }

    private static void promise40() {
        says(40, "Place i of a ROW.");
        ScopeWarden x = new ScopeWarden();
        x.row(3, 40);
        x.set(3, 39, -1);
        x.row(2, 0);
        Due.is("the first", x.get(3, 0), 0);
        Due.is("the last", x.get(3, 39), -1);
        says(40, "NO: no such ROW, nothing there, no such place.");
        long[] none = {x.get(4, 0), x.get(-1, 0), x.get(MIN, 0), x.get(MAX, 0), x.get(0, 0), x.get(0, -1), x.get(3, 40),
            x.get(3, -1), x.get(3, MIN), x.get(3, MAX), x.get(2, 0)};
        for (int i = 0; i < none.length; i++) {
            Due.is("get " + i, none[i], ScopeWarden.NO);
        }
    }

    private static void promise41() {
        says(41, "n ints of a ROW from i on come to another one (or the same) from j on, as they all were before: n.");
        ScopeWarden x = new ScopeWarden();
        x.row(0, 5);
        x.row(1, 40);
        for (int i = 0; i < 5; i++) {
            x.set(0, i, i + 1);
        }
        Due.is("all", x.copy(0, 0, 1, 35, 5), 5);
        Due.is("the last place", x.get(1, 39), 5);
        Due.is("the place ahead", x.get(1, 34), 0);
        Due.is("none", x.copy(0, 2, 1, 0, 0), 0);
        Due.is("none came", x.get(1, 0), 0);
        Due.is("one", x.copy(0, 4, 1, 0, 1), 1);
        Due.is("it", x.get(1, 0), 5);
        Due.is("upwards within the same", x.copy(0, 0, 0, 2, 3), 3);
        Due.is("it", row(x, 0), "1 2 1 2 3");
        Due.is("downwards within the same", x.copy(0, 1, 0, 0, 4), 4);
        Due.is("it", row(x, 0), "2 1 2 3 3");
        Due.is("onto itself", x.copy(0, 0, 0, 0, 5), 5);
        Due.is("it", row(x, 0), "2 1 2 3 3");
        Due.is("the longest", x.copy(1, 0, 1, 0, 40), 40);
        says(41, "NONE: rows;");
        Due.refused("no such one", x, NONE, () -> x.copy(4, 0, 0, 0, 1));
        Due.refused("no such other", x, NONE, () -> x.copy(0, 0, -1, 0, 1));
        Due.refused("no such other, nothing in the one", x, NONE, () -> x.copy(2, 0, 4, 0, 1));
        says(41, "NOTHING;");
        Due.refused("nothing in the one", x, NOTHING, () -> x.copy(2, -1, 0, 0, 1));
        Due.refused("nothing in the other", x, NOTHING, () -> x.copy(0, -1, 2, 0, 1));
        Due.refused("nothing in the same", x, NOTHING, () -> x.copy(2, 0, 2, 0, 0));
    }

    private static void promise41Beyond() {
        says(41, "BEYOND: n, i or j is below 0, or beyond either's end.");
        ScopeWarden x = new ScopeWarden();
        x.row(0, 5);
        x.row(1, 3);
        x.row(2, 0);
        int[][] beyond = {{0, 0, 1, 0, -1}, {0, -1, 1, 0, 1}, {0, 0, 1, -1, 1}, {0, -1, 1, 0, 0}, {0, 0, 1, -1, 0},
            {0, 0, 1, 0, 4}, {0, 0, 1, 1, 3}, {0, 0, 1, 3, 1}, {0, 3, 1, 0, 3}, {0, 5, 1, 0, 1}, {0, 6, 1, 0, 0},
            {0, 0, 1, 4, 0}, {0, 1, 0, 0, 5}, {0, 0, 2, 0, 1}, {2, 0, 0, 0, 1}, {0, MAX, 1, 0, 1}, {0, 1, 1, 1, MAX},
            {0, MAX, 1, MAX, MAX}, {0, 0, 1, MAX, 1}, {0, MIN, 1, 0, MIN}, {0, 0, 1, MIN, 1}, {2, 1, 0, 0, 0}};
        for (int[] c : beyond) {
            Due.refused("copy(" + c[0] + ", " + c[1] + ", " + c[2] + ", " + c[3] + ", " + c[4] + ")", x, BEYOND,
                    () -> x.copy(c[0], c[1], c[2], c[3], c[4]));
        }
        Due.is("up to either's end", x.copy(0, 2, 1, 0, 3), 3);
        Due.is("none of a row of none", x.copy(2, 0, 2, 0, 0), 0);
    }

    private static void promise42() {
        says(42, "THE LOG is LAID into a ROW from i on: how many numbers.");
        ScopeWarden x = logged(40);
        x.row(0, 40);
        Due.is("as many as a row has", x.lay(0, 0), 40);
        Due.is("the last", x.get(0, 39), 39);
        Due.is("judged", x.judge(0, 0), -5);
        says(42, "NONE;");
        Due.refused("lay(4, 0)", x, NONE, () -> x.lay(4, 0));
        Due.refused("lay(-1, 0)", x, NONE, () -> x.lay(-1, 0));
        says(42, "NOTHING;");
        Due.refused("lay(1, 0)", x, NOTHING, () -> x.lay(1, 0));
        Due.refused("lay(1, -1)", x, NOTHING, () -> x.lay(1, -1));
        says(42, "BEYOND: not all were (those that had a place are there all the same; none, if i is below 0).");
        Due.is("one place too few", x.lay(0, 1), BEYOND);
        Due.is("those that had one", x.get(0, 0) + x.get(0, 1) + x.get(0, 39), 38);
        Due.is("from the last place", x.lay(0, 39), BEYOND);
        Due.is("it", x.get(0, 39), 0);
        Due.refused("from one behind it", x, BEYOND, () -> x.lay(0, 40));
        Due.refused("from far behind it", x, BEYOND, () -> x.lay(0, MAX));
        Due.refused("from below 0", x, BEYOND, () -> x.lay(0, -1));
        Due.refused("from far below 0", x, BEYOND, () -> x.lay(0, MIN));
        Due.take(x, 0, "z");
        x.close(40);
        Due.is("one number more than a row has places", x.lay(0, 0), BEYOND);
        x.row(1, 0);
        Due.is("into a row of none", x.lay(1, 0), BEYOND);
        ScopeWarden y = new ScopeWarden();
        y.row(0, 1);
        y.set(0, 0, 7);
        Due.is("no number", y.lay(0, 0), 0);
        Due.is("the place", y.get(0, 0), 7);
    }

    private static void promise43() {
        says(43, "JUDGED by a ROW from i on.");
        ScopeWarden x = logged(40);
        x.row(0, 40);
        x.lay(0, 0);
        Due.is("none", x.judge(0, 0), -5);
        Due.is("from the next place", x.judge(0, 1), 0);
        Due.is("from the last place", x.judge(0, 39), 0);
        Due.is("from one behind it", x.judge(0, 40), 200);
        Due.is("from below 0", x.judge(0, -1), 200);
        Due.is("judge(0, MIN)", x.judge(0, MIN), 200);
        Due.is("judge(0, MAX)", x.judge(0, MAX), 200);
        Due.take(x, 0, "z");
        x.close(40);
        Due.is("one number more than a row has places", x.judge(0, 0), 240);
        x.set(0, 39, 1);
        Due.is("another at the last place", x.judge(0, 0), 39);
        says(43, "NONE;");
        Due.refused("judge(4, 0)", x, NONE, () -> x.judge(4, 0));
        Due.refused("judge(-1, 0)", x, NONE, () -> x.judge(-1, 0));
        says(43, "NOTHING.");
        Due.refused("judge(1, 0)", x, NOTHING, () -> x.judge(1, 0));
    }

    private static void promise44() {
        says(44, "THE IMAGE is taken: how many THINGS are HELD.");
        ScopeWarden x = new ScopeWarden();
        Due.is("of none", x.image(), 0);
        Due.take(x, 0, "a");
        x.open(0);
        Due.take(x, 1, "b");
        Due.take(x, 1, "c");
        x.close(0);
        Due.refused("it changes nothing", x, 2, x::image);
        x.shut(0);
        Due.is("the latest one counts", x.undo(), 2);
        ScopeWarden y = new ScopeWarden();
        for (int n = 0; n < 90; n++) {
            Due.take(y, 0, "t" + (char) ('a' + n / 26) + (char) ('a' + n % 26));
        }
        Due.is("as many as there can be", y.image(), 90);
        y.shut(0);
        Due.is("told(3)", y.told(3), 0);
        Due.is("undo", y.undo(), 90);
        Due.is("told(3) then", y.told(3), 90);
        Due.is("the 91st", Due.take(y, 0, "z"), FULL);
    }

    private static void promise45() {
        says(45, "All is as THE IMAGE: how many THINGS are HELD.");
        ScopeWarden x = new ScopeWarden();
        Due.take(x, 0, "a");
        x.image();
        Due.refused("at once", x, 1, x::undo);
        String then = Due.world(x);
        for (int n = 1; n < 60; n++) {
            x.open(0);
        }
        for (int n = 1; n < 90; n++) {
            Due.take(x, n % 60, "t" + (char) ('a' + n / 26) + (char) ('a' + n % 26) + "=!1");
        }
        x.shut(0);
        Due.is("undo from as much as there can be", x.undo(), 1);
        Due.is("all is as it was", Due.world(x), then);
        Due.is("a thing comes again", Due.take(x, 0, "taa"), 1);
        Due.is("without the closer of the one before", x.thing(1, 3), 0);
        Due.is("a scope comes again", x.open(0), 1);
        Due.is("it is OPEN", x.scope(1, 0), 0);
        Due.is("undo again", x.undo(), 1);
        Due.is("all is as it was", Due.world(x), then);
        says(45, "STATE: there is none.");
        ScopeWarden y = new ScopeWarden();
        Due.take(y, 0, "a");
        Due.refused("undo", y, STATE, y::undo);
        y.image();
        Due.is("undo then", y.undo(), 1);
    }

    /** What comes with the number of one that undo() took away has nothing of that. */
    private static void promise45ComeAgain() {
        says(45, "All is as THE IMAGE:");
        ScopeWarden x = new ScopeWarden();
        Due.task(x, 0, 0, ".;.;.;.");
        x.tick();
        x.image();
        String[] ends = {"+0=1", "!2", ".;k1;.;+0=1", ".;.;.;.", "k1;.;.;."};
        for (String end : ends) {
            Due.task(x, 0, 50, "aa{!1};xa;.;(;.;);" + end);
            x.run(5);
            x.undo();
            Due.is("a task comes again", Due.task(x, 0, 0, "+1=1;.;+1=1"), 1);
            int[] due = {0, 100, 0, 2, 1, 0, 0, 3};
            for (int what = 0; what < due.length; what++) {
                of(x, 1, what, due[what]);
            }
            Due.is("it has no faults", x.faults(1), 0);
            Due.is("it never had a turn", x.ready(0), 1);
            Due.is("its turn", x.tick(), 1);
            Due.is("the other's", x.tick(), 0);
            Due.is("its turn", x.tick(), 1);
            of(x, 1, 0, 1);
            Due.is("counter(1)", x.counter(1), 2);
            Due.is("a thing comes again", Due.take(x, 0, "a=."), 0);
            Due.is("it is HELD", x.thing(0, 0), 0);
            Due.is("not closed", x.thing(0, 2), -5);
            Due.is("its closer", Due.closer(x, 0), ".");
            Due.is("a scope comes again", x.open(0), 3);
            Due.is("it is OPEN", x.scope(3, 0), 0);
            Due.is("of no task", x.scope(3, 5), -5);
            x.undo();
        }
        Due.take(x, 0, "b=!3");
        x.close(0);
        x.image();
        x.undo();
        Due.is("the faults of the latest call", Due.faults(x, -1), "3:0");
        Due.take(x, 0, "c=!4");
        x.close(1);
        Due.is("those of another", Due.faults(x, -1), "4:1");
        x.undo();
        Due.is("laid back", Due.faults(x, -1), "3:0");
    }
}
