/** "Answers", "More precisely" and the constants of the document, sentence by sentence. */
public final class AnswersEdgesTest {
    private static final int NONE = ScopeWarden.NONE, BAD = ScopeWarden.BAD, STATE = ScopeWarden.STATE;
    private static final int FULL = ScopeWarden.FULL, NOTHING = -11, BEYOND = -13, BELOW = -14;

    public static void main(String[] args) {
        constants();
        numbersOfAnswers();
        firstOfTexts();
        firstOfScopes();
        firstOfThings();
        firstOfTaking();
        firstOfRenaming();
        firstOfThoughts();
        firstOfTasks();
        firstOfRows();
        notAnyIsLast();
        refusedTextsAndScopes();
        refusedTasks();
        refusedRows();
        refusedButLaid();
        askedOfThings();
        askedOfTasks();
        askedButWritten();
        faultsOfTexts();
        emptyTape();
        tapeThatStays();
        faultsOfACall();
        Doc.isQuoted("Answers");
        openingStepWhenFull();
        turnsThatCancel();
        lastPoint();
        doneAheadOfTheShut();
        shutAlready();
        sixthFigure();
        minusBehindLess();
        emptyBraces();
        belowItself();
        fromWithNothing();
        emptyLog();
        Doc.isQuoted("More precisely");
        Due.end();
    }

    private static void says(String words) {
        Doc.says("Answers", words);
    }

    private static void precisely(String words) {
        Doc.says("More precisely", words);
    }

    private static String nameOf(int n) {
        return "t" + (char) ('a' + n / 26) + (char) ('a' + n % 26);
    }

    /** All that there can be: 60 scopes (1 is shut), 90 things (0 is closed, 1 held in 2), 10 tasks (0 is over). */
    private static ScopeWarden full() {
        ScopeWarden x = new ScopeWarden();
        for (int n = 1; n < 50; n++) {
            x.open(0);
        }
        for (int t = 0; t < 10; t++) {
            Due.task(x, 0, t == 0 ? 1 : 0, t == 0 ? "." : "+0=1;.;+0=1");
        }
        for (int n = 0; n < 90; n++) {
            Due.take(x, n == 1 ? 2 : 0, nameOf(n) + "=!7");
        }
        x.tick();
        x.shut(1);
        x.close(0);
        return x;
    }

    private static void constants() {
        Doc.says("The constants", "`NO = Long.MIN_VALUE`: No such number.");
        Due.is("NO", ScopeWarden.NO, Long.MIN_VALUE);
        ScopeWarden x = new ScopeWarden();
        Due.is("counter(8)", x.counter(8), Long.MIN_VALUE);
        Due.is("get(4, 0)", x.get(4, 0), Long.MIN_VALUE);
        Doc.isQuoted("The constants");
    }

    private static void numbersOfAnswers() {
        says("NONE (-1) no such number; BAD (-2) a number is not as told; STATE (-3) as told; FULL (-4);");
        ScopeWarden x = full();
        Due.is("NONE", ScopeWarden.NONE, -1);
        Due.is("BAD", ScopeWarden.BAD, -2);
        Due.is("STATE", ScopeWarden.STATE, -3);
        Due.is("FULL", ScopeWarden.FULL, -4);
        Due.is("no such number", x.open(60), -1);
        Due.is("a number is not as told", x.run(101), -2);
        Due.is("as told", x.open(1), -3);
        Due.is("full", x.open(0), -4);
    }

    private static void firstOfTexts() {
        says("the first that a call's words name");
        ScopeWarden x = new ScopeWarden();
        for (int i = 0; i < 120; i++) {
            x.feed('a');
        }
        Due.refused("feed: BAD, FULL", x, BAD, () -> x.feed(0));
        Due.refused("feed: BAD, FULL", x, BAD, () -> x.feed(128));
        Due.refused("feed: FULL", x, FULL, () -> x.feed(127));
    }

    private static void firstOfScopes() {
        ScopeWarden x = full();
        Due.refused("open: NONE, FULL", x, NONE, () -> x.open(60));
        Due.refused("open: STATE, FULL", x, STATE, () -> x.open(1));
        Due.refused("open: FULL", x, FULL, () -> x.open(0));
        Due.refused("shut: NONE", x, NONE, () -> x.shut(60));
        Due.refused("shut: STATE", x, STATE, () -> x.shut(1));
    }

    private static void firstOfThings() {
        ScopeWarden x = full();
        Due.refused("close: NONE", x, NONE, () -> x.close(90));
        Due.refused("close: STATE", x, STATE, () -> x.close(0));
        Due.refused("move: NONE twice", x, NONE, () -> x.move(90, 60));
        Due.refused("move: NONE of the thing, STATE of the scope", x, NONE, () -> x.move(90, 1));
        Due.refused("move: NONE of the scope, STATE of the thing", x, NONE, () -> x.move(0, 60));
        Due.refused("move: STATE twice", x, STATE, () -> x.move(0, 1));
        Due.refused("move: STATE of the thing", x, STATE, () -> x.move(0, 2));
        Due.refused("move: STATE of the scope", x, STATE, () -> x.move(1, 1));
    }

    private static void firstOfTaking() {
        ScopeWarden x = full();
        Due.put(x, "t=!0");
        Due.refused("take: NONE, a fault, FULL", x, NONE, () -> x.take(60));
        Due.refused("take: STATE, a fault, FULL", x, STATE, () -> x.take(1));
        String before = Due.world(x);
        Due.is("take: a fault, FULL", x.take(0), -103);
        Due.is("take: FULL, STATE of its name", Due.take(x, 0, nameOf(1)), FULL);
        Due.is("take: FULL", Due.take(x, 0, "t"), FULL);
        Due.is("all is as it was", Due.world(x), before);
        ScopeWarden y = new ScopeWarden();
        Due.take(y, 0, "a");
        Due.is("take: a fault, STATE of its name", Due.take(y, 0, "a=!0"), -103);
        Due.is("take: a fault behind a name that is held", Due.take(y, 0, "a9"), -101);
        Due.is("take: STATE of its name", Due.take(y, 0, "a=!1"), STATE);
    }

    private static void firstOfRenaming() {
        ScopeWarden x = full();
        Due.put(x, "9");
        Due.refused("rename: NONE, a fault", x, NONE, () -> x.rename(90));
        Due.refused("rename: STATE, a fault", x, STATE, () -> x.rename(0));
        Due.is("rename: a fault", x.rename(1), -100);
        Due.is("rename: a fault, STATE of its name", Due.rename(x, 1, nameOf(2) + "="), -103);
        Due.is("rename: STATE of its name", Due.rename(x, 1, nameOf(2)), STATE);
    }

    private static void firstOfThoughts() {
        ScopeWarden x = full();
        Due.refused("would: NONE of the scope", x, NONE, () -> x.would(60, 0));
        Due.refused("would: NONE of what, STATE", x, NONE, () -> x.would(1, 6));
        Due.refused("would: NONE of what, below 0, STATE", x, NONE, () -> x.would(1, -1));
        Due.refused("would: STATE", x, STATE, () -> x.would(1, 5));
        Due.refused("trial: NONE of the task, BAD", x, NONE, () -> x.trial(10, 101, 0));
        Due.refused("trial: NONE of what, BAD", x, NONE, () -> x.trial(0, 101, 6));
        Due.refused("trial: NONE of what, below 0, BAD", x, NONE, () -> x.trial(0, -1, -1));
        Due.refused("trial: BAD", x, BAD, () -> x.trial(0, 101, 5));
    }

    private static void firstOfTasks() {
        ScopeWarden x = full();
        Due.put(x, "!0");
        Due.refused("task: NONE, BAD, FULL, a fault", x, NONE, () -> x.task(60, 100));
        Due.refused("task: BAD, STATE, FULL, a fault", x, BAD, () -> x.task(1, 100));
        Due.refused("task: STATE, FULL, a fault", x, STATE, () -> x.task(1, 99));
        Due.refused("task: FULL, a fault", x, FULL, () -> x.task(0, 99));
        Due.refused("cancel: NONE", x, NONE, () -> x.cancel(10));
        Due.refused("cancel: STATE", x, STATE, () -> x.cancel(0));
        Due.refused("rank: NONE, BAD", x, NONE, () -> x.rank(10, 100));
        Due.refused("rank: BAD, STATE", x, BAD, () -> x.rank(0, 100));
        Due.refused("rank: BAD, STATE", x, BAD, () -> x.rank(0, -100));
        Due.refused("rank: STATE", x, STATE, () -> x.rank(0, 99));
    }

    private static void firstOfRows() {
        ScopeWarden x = full();
        x.row(0, 2);
        Due.refused("row: NONE, BAD", x, NONE, () -> x.row(4, 41));
        Due.refused("row: NONE, BELOW", x, NONE, () -> x.row(-1, -1));
        Due.refused("row: BAD", x, BAD, () -> x.row(0, 41));
        Due.refused("row: BELOW", x, BELOW, () -> x.row(0, -1));
        Due.refused("set: NONE", x, NONE, () -> x.set(4, -1, 0));
        Due.refused("set: NOTHING, BEYOND", x, NOTHING, () -> x.set(1, -1, 0));
        Due.refused("set: BEYOND", x, BEYOND, () -> x.set(0, -1, 0));
        Due.refused("copy: NONE of the one, NOTHING", x, NONE, () -> x.copy(4, -1, 1, -1, -1));
        Due.refused("copy: NONE of the other, NOTHING", x, NONE, () -> x.copy(1, -1, -1, -1, -1));
        Due.refused("copy: NOTHING of the one, BEYOND", x, NOTHING, () -> x.copy(1, -1, 0, -1, -1));
        Due.refused("copy: NOTHING of the other, BEYOND", x, NOTHING, () -> x.copy(0, -1, 1, -1, -1));
        Due.refused("copy: BEYOND", x, BEYOND, () -> x.copy(0, -1, 0, -1, -1));
        Due.refused("lay: NONE", x, NONE, () -> x.lay(4, -1));
        Due.refused("lay: NOTHING, BEYOND", x, NOTHING, () -> x.lay(1, -1));
        Due.refused("lay: BEYOND", x, BEYOND, () -> x.lay(0, -1));
        Due.refused("judge: NONE", x, NONE, () -> x.judge(4, -1));
        Due.refused("judge: NOTHING", x, NOTHING, () -> x.judge(1, -1));
    }

    private static void notAnyIsLast() {
        says("(-5 is told only where none of them is).");
        ScopeWarden x = new ScopeWarden();
        Due.is("youngest of no scope", x.youngest(1), NONE);
        Due.is("youngest", x.youngest(0), -5);
        Due.is("ready below 0", x.ready(-1), NONE);
        Due.is("ready", x.ready(0), -5);
        Due.is("the parent of no scope", x.scope(1, 1), NONE);
        Due.is("the parent", x.scope(0, 1), -5);
        Due.is("the task of no scope", x.scope(1, 5), NONE);
        Due.is("the task", x.scope(0, 5), -5);
        Due.is("the place of no thing", x.thing(0, 2), NONE);
        Due.take(x, 0, "a");
        Due.is("the place", x.thing(0, 2), -5);
        Due.is("judge by no row", x.judge(4, 0), NONE);
        Due.is("judge by nothing", x.judge(0, 0), NOTHING);
        x.row(0, 0);
        Due.is("judge", x.judge(0, 0), -5);
        Due.is("tick", x.tick(), -5);
        Due.is("find", Due.find(x, "b"), -5);
        Due.is("from", Due.from(x, "b"), -5);
    }

    private static void refusedTextsAndScopes() {
        says("What is answered so changes nothing");
        ScopeWarden x = full();
        x.spell(1);
        Due.put(x, "t=");
        Due.refused("feed", x, BAD, () -> x.feed(0));
        Due.refused("spell", x, NONE, () -> x.spell(90));
        Due.refused("spellTask", x, NONE, () -> x.spellTask(10));
        Due.refused("paper", x, NONE, () -> x.paper(2));
        Due.refused("open", x, NONE, () -> x.open(-1));
        Due.refused("take", x, NONE, () -> x.take(-1));
        Due.refused("close", x, NONE, () -> x.close(-1));
        Due.refused("shut", x, NONE, () -> x.shut(-1));
        Due.refused("move", x, NONE, () -> x.move(-1, 0));
        Due.refused("count", x, NONE, () -> x.count(-1, 1));
        Due.refused("count", x, NONE, () -> x.count(8, 1));
        Due.refused("scope", x, NONE, () -> x.scope(0, 6));
        Due.refused("below", x, NONE, () -> x.below(0, 60));
        Due.refused("youngest", x, NONE, () -> x.youngest(60));
        Due.refused("entry", x, NONE, () -> x.entry(0, -1));
        Due.refused("thing", x, NONE, () -> x.thing(0, 4));
        Due.refused("name", x, NONE, () -> x.name(0, 3));
        Due.refused("rename", x, NONE, () -> x.rename(-1));
        Due.refused("byName", x, NONE, () -> x.byName(89));
        Due.refused("plan", x, NONE, () -> x.plan(0, 89));
        Due.refused("log", x, NONE, () -> x.log(1));
        Due.refused("fault", x, NONE, () -> x.fault(-1, 1, 0));
        Due.refused("faults", x, NONE, () -> x.faults(10));
        ScopeWarden y = new ScopeWarden();
        Due.refused("undo", y, STATE, y::undo);
    }

    private static void refusedTasks() {
        ScopeWarden x = full();
        Due.put(x, ".");
        Due.refused("task", x, NONE, () -> x.task(-1, 0));
        Due.refused("run", x, BAD, () -> x.run(-1));
        Due.refused("run", x, BAD, () -> x.run(101));
        Due.refused("cancel", x, NONE, () -> x.cancel(-1));
        Due.refused("rank", x, NONE, () -> x.rank(-1, 0));
        Due.refused("of", x, NONE, () -> x.of(0, 8));
        Due.refused("ready", x, NONE, () -> x.ready(-1));
        Due.refused("told", x, NONE, () -> x.told(10));
        x.run(100);
        Due.refused("tick", x, -5, x::tick);
        Due.refused("ready", x, -5, () -> x.ready(0));
    }

    private static void refusedRows() {
        ScopeWarden x = full();
        x.row(0, 3);
        x.set(0, 2, 5);
        Due.refused("row", x, BAD, () -> x.row(0, 41));
        Due.refused("row", x, BELOW, () -> x.row(0, -1));
        Due.refused("set", x, BEYOND, () -> x.set(0, 3, 1));
        Due.refused("set", x, NOTHING, () -> x.set(1, 0, 1));
        Due.refused("copy, that would begin well", x, BEYOND, () -> x.copy(0, 1, 0, 0, 3));
        Due.refused("copy, that would begin well", x, BEYOND, () -> x.copy(0, 0, 0, 1, 3));
        Due.refused("lay", x, NOTHING, () -> x.lay(1, 0));
        Due.refused("lay", x, BEYOND, () -> x.lay(0, 3));
        Due.refused("judge", x, 200, () -> x.judge(0, 3));
    }

    private static void refusedButLaid() {
        says("(but ROWS by BEYOND, as told);");
        ScopeWarden x = full();
        x.close(1);
        x.close(2);
        x.row(0, 3);
        Due.is("lay", x.lay(0, 1), BEYOND);
        Due.is("get(0, 0)", x.get(0, 0), 0);
        Due.is("get(0, 1)", x.get(0, 1), 0);
        Due.is("get(0, 2)", x.get(0, 2), 1);
    }

    private static void askedOfThings() {
        says("what is asked changes nothing but");
        ScopeWarden x = full();
        Due.put(x, "abc");
        x.row(0, 3);
        String before = Due.all(x);
        for (int what = 0; what < 6; what++) {
            x.scope(0, what);
            x.would(0, what);
            x.would(2, what);
            x.thing(0, what);
            x.thing(1, what);
        }
        x.below(0, 1);
        x.youngest(0);
        x.entry(0, 0);
        x.name(1, -1);
        x.name(1, 0);
        x.byName(0);
        x.plan(0, -1);
        x.plan(0, 0);
        x.log(0);
        x.fault(-1, 0, 0);
        x.faults(-1);
        x.counter(0);
        x.paper(0);
        x.get(0, 0);
        x.judge(0, 0);
        Due.is("all is as it was", Due.all(x), before);
    }

    private static void askedOfTasks() {
        ScopeWarden x = full();
        Due.put(x, "abc");
        x.image();
        String before = Due.all(x);
        for (int what = 0; what < 10; what++) {
            x.of(1, what);
            x.told(what);
            x.trial(1, 0, what);
            x.trial(1, 100, what);
            x.ready(what);
        }
        x.faults(1);
        x.fault(1, 0, 0);
        Due.is("all is as it was", Due.all(x), before);
        x.undo();
        Due.is("the image is, too", Due.all(x), before);
    }

    private static void askedButWritten() {
        says("THE PAPER, ROWS into which it is LAID.");
        ScopeWarden x = full();
        Due.is("spell", x.spell(1), 2);
        Due.is("the paper", Due.paper(x), "!7");
        Due.is("spellTask", x.spellTask(1), 11);
        Due.is("the paper", Due.paper(x), "+0=1;.;+0=1");
        x.close(1);
        x.row(0, 3);
        x.row(1, 3);
        String before = Due.world(x);
        Due.is("lay", x.lay(0, 1), 2);
        Due.is("the row", x.get(0, 2), 1);
        Due.is("another row", x.get(1, 2), 0);
        Due.is("all else is as it was", Due.world(x), before);
    }

    private static void faultsOfTexts() {
        says("-100 less the FAULT of a text;");
        ScopeWarden x = new ScopeWarden();
        Due.take(x, 0, "a");
        StringBuilder b = new StringBuilder(".;");
        while (b.length() < 120) {
            b.append(".;");
        }
        Due.is("take with the least", Due.take(x, 0, "9"), -100);
        Due.is("take with the next", Due.take(x, 0, "b9"), -101);
        Due.is("take with the greatest of a byte", Due.take(x, 0, "bc=" + b.substring(0, 116) + "y"), -219);
        Due.is("take with the greatest", Due.take(x, 0, "bc=" + b.substring(0, 114) + "+0="), -220);
        Due.is("task with the least", Due.task(x, 0, 0, ""), -100);
        Due.is("task with the greatest", Due.task(x, 0, 0, b.toString()), -220);
        Due.is("rename with the least", Due.rename(x, 0, "9"), -100);
        Due.is("rename with the greatest", Due.rename(x, 0, "abcdefgh"), -107);
    }

    private static void emptyTape() {
        says("THE TAPE is empty behind each call that reads it.");
        ScopeWarden x = new ScopeWarden();
        Due.take(x, 0, "a");
        Due.is("take", x.told(8), 0);
        Due.take(x, 0, "b=");
        Due.is("take with a fault", x.told(8), 0);
        Due.take(x, 0, "a");
        Due.is("take of a held name", x.told(8), 0);
        Due.find(x, "a");
        Due.is("find", x.told(8), 0);
        Due.find(x, "9");
        Due.is("find of no name", x.told(8), 0);
        Due.from(x, "a");
        Due.is("from", x.told(8), 0);
        Due.from(x, "zz");
        Due.is("from, with none", x.told(8), 0);
        Due.rename(x, 0, "b");
        Due.is("rename", x.told(8), 0);
        Due.rename(x, 0, "b");
        Due.is("rename to a held name", x.told(8), 0);
        Due.rename(x, 0, "b=");
        Due.is("rename with a fault", x.told(8), 0);
        Due.task(x, 0, 0, ".");
        Due.is("task", x.told(8), 0);
        Due.task(x, 0, 0, "y");
        Due.is("task with a fault", x.told(8), 0);
        ScopeWarden y = full();
        Due.take(y, 0, "abc");
        Due.is("take that is FULL", y.told(8), 0);
    }

    private static void tapeThatStays() {
        ScopeWarden x = full();
        x.image();
        Due.put(x, "wxy");
        x.take(60);
        x.take(1);
        x.rename(90);
        x.rename(0);
        x.task(60, 0);
        x.task(0, 100);
        x.task(1, 0);
        x.task(0, 0);
        x.open(0);
        x.spell(1);
        x.close(1);
        x.shut(2);
        x.run(3);
        x.would(0, 0);
        x.trial(1, 3, 0);
        x.undo();
        Due.is("the tape of calls that don't read it", x.told(8), 3);
        Due.is("what it holds is read by the next that does", x.rename(1), 3);
        Due.is("it", Due.name(x, 1), "wxy");
    }

    private static void faultsOfACall() {
        says("FAULTS of a call: what the latest close() or shut() gathered that was not refused (none at first).");
        ScopeWarden x = new ScopeWarden();
        Due.is("none at first", x.faults(-1), 0);
        x.open(0);
        Due.take(x, 1, "a=!1");
        Due.take(x, 0, "b=!2");
        Due.take(x, 0, "c=!3");
        Due.task(x, 0, 0, "xc;.;!9");
        x.close(1);
        Due.is("of a close", Due.faults(x, -1), "2:1");
        x.close(1);
        x.close(3);
        x.shut(2 + 1);
        x.tick();
        x.tick();
        x.would(1, 0);
        x.trial(0, 1, 0);
        x.move(0, 1);
        Due.is("behind what is refused, or gathers none for a call", Due.faults(x, -1), "2:1");
        Due.is("those of the task", Due.faults(x, 0), "9:-1 3:2");
        x.shut(1);
        Due.is("of a shut", Due.faults(x, -1), "1:0");
        x.shut(1);
        Due.is("behind a shut that is refused", Due.faults(x, -1), "1:0");
        x.shut(0);
        Due.is("behind one that gathers none", x.faults(-1), 0);
    }

    private static void openingStepWhenFull() {
        precisely("( looks for 107 ahead of 101.");
        // within a turn nothing shuts the scope in which a ( opens one: so 101 has no run of its own
        ScopeWarden x = new ScopeWarden();
        for (int n = 1; n < 58; n++) {
            x.open(0);
        }
        Due.task(x, 0, 0, "(;+0=1;.;(;+0=1;);)");
        x.tick();
        Due.is("told(0)", x.told(0), 60);
        x.tick();
        Due.is("107", Due.faults(x, 0), "107:-1");
        Due.is("counter(0)", x.counter(0), 1);
    }

    private static void turnsThatCancel() {
        precisely("A TURN by which a TASK is found asked for, or with a SCOPE that is not OPEN, counts as a TURN.");
        ScopeWarden x = new ScopeWarden();
        Due.task(x, 0, 0, "+0=1");
        Due.task(x, 0, 0, "(;.;)");
        x.cancel(0);
        Due.is("tick of one that is asked for", x.tick(), 0);
        Due.is("of(0, 2)", x.of(0, 2), 1);
        Due.is("told(6)", x.told(6), 1);
        x.tick();
        x.shut(3);
        Due.is("tick of one with a scope that is SHUT", x.tick(), 1);
        Due.is("of(1, 2)", x.of(1, 2), 2);
        Due.is("told(6)", x.told(6), 3);
        Due.is("both are over", x.of(0, 0) * 10 + x.of(1, 0), 33);
        Due.task(x, 0, 0, ".;.");
        x.cancel(2);
        Due.is("run counts it, too", x.run(100), 1);
    }

    private static void lastPoint() {
        precisely("A . that is the last of STEPS is their end, in the same TURN.");
        ScopeWarden x = new ScopeWarden();
        Due.task(x, 0, 0, "+0=1;.");
        x.tick();
        Due.is("of(0, 0)", x.of(0, 0), 1);
        Due.is("of(0, 2)", x.of(0, 2), 1);
        Due.is("of(0, 5)", x.of(0, 5), 2);
        Due.task(x, 0, 0, ".;.");
        x.tick();
        Due.is("the one ahead of it is not", x.of(1, 0), 0);
        x.tick();
        Due.is("of(1, 0)", x.of(1, 0), 1);
        Due.is("of(1, 2)", x.of(1, 2), 2);
    }

    private static void doneAheadOfTheShut() {
        precisely("Whether a TASK is DONE is told by the FAULTS ahead of the SHUT of its SCOPES; those that come by that "
                + "are gathered all the same.");
        ScopeWarden x = new ScopeWarden();
        Due.task(x, 0, 0, "aa{!1};ab{!2}");
        x.tick();
        Due.is("none ahead of it", x.of(0, 0), 1);
        Due.is("those of it", Due.faults(x, 0), "2:1 1:0");
        Due.task(x, 0, 0, "aa{!1};ab{!2};xb");
        x.tick();
        Due.is("one ahead of it", x.of(1, 0), 2);
        Due.is("and those of it", Due.faults(x, 1), "2:3 1:2");
    }

    private static void shutAlready() {
        precisely(") of a SCOPE that is SHUT already does nothing else.");
        // whoever shuts the scope of a ( between two turns cancels the task: so its ) doesn't come
        ScopeWarden x = new ScopeWarden();
        Due.task(x, 0, 0, "(;aa{!1};.;);+0=1");
        x.tick();
        x.shut(2);
        x.tick();
        Due.is("of(0, 0)", x.of(0, 0), 3);
        Due.is("it gathers none of it again", Due.faults(x, 0), "");
        Due.is("the log", Due.log(x), "0");
        Due.is("counter(0)", x.counter(0), 0);
    }

    private static void sixthFigure() {
        precisely("A sixth figure of v is a byte that can't stand;");
        ScopeWarden x = new ScopeWarden();
        Due.is("behind =", Due.take(x, 0, "a=+0=123456"), -110);
        Due.is("behind = and -", Due.take(x, 0, "a=+0=-123456"), -111);
        Due.is("behind <", Due.take(x, 0, "a=?0<123456:."), -110);
        Due.is("behind < and -", Due.take(x, 0, "a=?0<-123456:."), -111);
        Due.is("five", Due.take(x, 0, "a=+0=12345;?0<-12345:."), 0);
    }

    private static void minusBehindLess() {
        precisely("v behind < may have a - ahead;");
        ScopeWarden x = new ScopeWarden();
        x.count(0, -6);
        Due.is("take", Due.take(x, 0, "a=?0<-5:+1=1;?0<-6:+1=1;?1<-0:+1=5"), 0);
        x.close(0);
        Due.is("counter(1)", x.counter(1), 1);
    }

    private static void emptyBraces() {
        precisely("{} without STEPS has its FAULT at the }.");
        ScopeWarden x = new ScopeWarden();
        Due.is("in a closer", Due.take(x, 0, "a=ab{}"), -105);
        Due.is("in a task", Due.task(x, 0, 0, "ab{}"), -103);
        Due.is("in another", Due.task(x, 0, 0, "ab{ac{}}"), -106);
        Due.is("behind a ;", Due.task(x, 0, 0, "ab{.;}"), -105);
    }

    private static void belowItself() {
        precisely("A SCOPE is below itself for below().");
        ScopeWarden x = new ScopeWarden();
        x.open(0);
        Due.is("below(0, 0)", x.below(0, 0), 1);
        Due.is("below(1, 1)", x.below(1, 1), 1);
        x.shut(1);
        Due.is("below(1, 1) when it is shut", x.below(1, 1), 1);
    }

    private static void fromWithNothing() {
        precisely("from() with an empty THE TAPE tells the least NAME.");
        ScopeWarden x = new ScopeWarden();
        Due.is("of none", x.from(), -5);
        Due.take(x, 0, "b");
        Due.take(x, 0, "aa");
        Due.take(x, 0, "ab");
        Due.is("of some", x.from(), 1);
        Due.take(x, 0, "a");
        Due.is("of some", x.from(), 3);
        x.close(3);
        Due.is("of those that are HELD", x.from(), 1);
    }

    private static void emptyLog() {
        precisely("With an empty LOG judge() tells -5, and lay() 0, whatever the place is.");
        ScopeWarden x = new ScopeWarden();
        x.row(0, 2);
        x.row(1, 0);
        for (int i : new int[] {Integer.MIN_VALUE, -1, 0, 1, 2, 3, 39, 40, Integer.MAX_VALUE}) {
            Due.is("judge(0, " + i + ")", x.judge(0, i), -5);
            Due.is("lay(0, " + i + ")", x.lay(0, i), 0);
            Due.is("judge(1, " + i + ")", x.judge(1, i), -5);
            Due.is("lay(1, " + i + ")", x.lay(1, i), 0);
        }
        Due.is("judge by nothing", x.judge(2, 0), NOTHING);
        Due.is("lay into nothing", x.lay(2, 0), NOTHING);
    }
}
