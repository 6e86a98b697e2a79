/** Promises 26 and 30 to 36: tasks, their turns, and what would be behind some ticks. */
public final class TasksTest {
    private static final int NONE = ScopeWarden.NONE, BAD = ScopeWarden.BAD, STATE = ScopeWarden.STATE;
    private static final int FULL = ScopeWarden.FULL;

    public static void main(String[] args) {
        promise26Trial();
        promise30Task();
        promise30TaskWhenFull();
        promise31Tick();
        promise31OrderOfTicks();
        promise32Run();
        promise33Cancel();
        promise34Rank();
        promise35Of();
        promise36Ready();
        stepsOfTasks();
        faultsOfSteps();
        scopesOfTasks();
        safePoints();
        faultsOfTasks();
        cancelledByStepsAndShuts();
        cleaningUp();
        Due.end();
    }

    private static void is(ScopeWarden x, int task, String call, int... due) {
        for (int what = 0; what < due.length; what++) {
            Due.is(call + ": of(" + task + ", " + what + ")", x.of(task, what), due[what]);
        }
    }

    private static void promise26Trial() {
        ScopeWarden x = new ScopeWarden();
        Due.take(x, 0, "a=!4");
        Due.task(x, 0, 0, "xa;.;.;!7");
        Due.task(x, 0, 0, ".;k0;.;.");
        String before = Due.all(x);
        int[][] due = {
            {0, 0, -1, 0, 0, 0}, {1, 4, 0, 0, 1, 1}, {1, 4, 0, 0, 1, 1}, {1, 4, 0, 0, 2, 1}, {1, 4, 0, 0, 2, 1},
            {1, 4, 0, 3, 3, 1}, {1, 4, 0, 3, 3, 1}};
        for (int n = 0; n < due.length; n++) {
            for (int what = 0; what < 6; what++) {
                Due.is("trial(0, " + n + ", " + what + ")", x.trial(0, n, what), due[n][what]);
            }
        }
        Due.is("trial(1, 100, 3)", x.trial(1, 100, 3), 1);
        Due.is("trial(1, 100, 4)", x.trial(1, 100, 4), 3);
        Due.is("trial changes nothing", Due.all(x), before);
        Due.refused("trial(2, 0, 0)", x, NONE, () -> x.trial(2, 0, 0));
        Due.refused("trial(-1, 0, 0)", x, NONE, () -> x.trial(-1, 0, 0));
        Due.refused("trial(0, 0, 6)", x, NONE, () -> x.trial(0, 0, 6));
        Due.refused("trial(0, 0, -1)", x, NONE, () -> x.trial(0, 0, -1));
        Due.refused("trial(0, 101, 6)", x, NONE, () -> x.trial(0, 101, 6));
        Due.refused("trial(0, 101, 0)", x, BAD, () -> x.trial(0, 101, 0));
        Due.refused("trial(0, -1, 0)", x, BAD, () -> x.trial(0, -1, 0));
        ScopeWarden y = new ScopeWarden();
        Due.task(y, 0, 0, "!7");
        Due.is("trial of an own fault", y.trial(0, 1, 0), 1);
        Due.is("its number", y.trial(0, 1, 1), 7);
        Due.is("its thing", y.trial(0, 1, 2), -1);
        Due.is("it is failed", y.trial(0, 1, 3), 2);
    }

    private static void promise30Task() {
        ScopeWarden x = new ScopeWarden();
        x.open(0);
        Due.is("task(1, 99)", Due.task(x, 1, 99, ".;+0=1"), 0);
        Due.is("task(0, -99)", Due.task(x, 0, -99, ".;+0=1"), 1);
        is(x, 0, "a new one", 0, 199, 0, 2, 1, 0, 0, 2);
        is(x, 1, "a new one", 0, 1, 0, 3, 1, 0, 0, 2);
        Due.is("entries of 1", Due.entries(x, 1), "102");
        Due.is("entries of 0", Due.entries(x, 0), "101 103");
        Due.is("scope(2, 5)", x.scope(2, 5), 0);
        Due.is("scope(3, 5)", x.scope(3, 5), 1);
        Due.put(x, "?");
        Due.refused("task(-1, 100)", x, NONE, () -> x.task(-1, 100));
        Due.refused("task(4, 0)", x, NONE, () -> x.task(4, 0));
        Due.refused("task(0, 100)", x, BAD, () -> x.task(0, 100));
        Due.refused("task(0, -100)", x, BAD, () -> x.task(0, -100));
        x.shut(1);
        Due.refused("task(1, 100)", x, BAD, () -> x.task(1, 100));
        Due.refused("task(1, 0)", x, STATE, () -> x.task(1, 0));
        String before = Due.world(x);
        Due.is("task with a fault", x.task(0, 0), -101);
        Due.is("it changed nothing", Due.world(x), before);
        Due.is("its tape", x.told(8), 0);
        Due.is("a task in the scope of another one", Due.task(x, 3, 0, "."), 2);
        Due.is("its scope", x.of(2, 3), 4);
        Due.is("the parent of that", x.scope(4, 1), 3);
    }

    private static void promise30TaskWhenFull() {
        ScopeWarden x = new ScopeWarden();
        for (int i = 0; i < 10; i++) {
            Due.is("task", Due.task(x, 0, 0, "."), i);
        }
        Due.put(x, ".");
        Due.refused("the 11th", x, FULL, () -> x.task(0, 0));
        x.run(100);
        Due.refused("the 11th when all are over", x, FULL, () -> x.task(0, 0));
        Due.refused("the 11th, in a shut one", x, STATE, () -> x.task(1, 0));
        Due.refused("the 11th, with a bad priority", x, BAD, () -> x.task(0, 100));
        ScopeWarden y = new ScopeWarden();
        for (int i = 1; i < 59; i++) {
            y.open(0);
        }
        Due.is("task with the 60th scope", Due.task(y, 0, 0, "+0=1;(;+1=1;)"), 0);
        Due.put(y, "?");
        Due.refused("task with a 61st", y, FULL, () -> y.task(0, 0));
        y.tick();
        Due.is("a ( with a 61st", Due.faults(y, 0), "107:-1");
        is(y, 0, "it", 2, 100, 1, 59, 0, 1, 0, 4);
        Due.is("told(0)", y.told(0), 60);
    }

    private static void promise31Tick() {
        ScopeWarden x = new ScopeWarden();
        Due.is("tick of none", x.tick(), -5);
        Due.task(x, 0, 0, "+0=1;+0=1;.;+0=5");
        Due.is("tick", x.tick(), 0);
        Due.is("counter", x.counter(0), 2);
        is(x, 0, "behind a turn", 0, 100, 1, 1, 1, 3, 0, 4);
        Due.is("tick", x.tick(), 0);
        Due.is("counter", x.counter(0), 7);
        is(x, 0, "behind its end", 1, 100, 2, 1, 0, 4, 0, 4);
        Due.refused("tick when it is over", x, -5, x::tick);
        Due.is("its scope", x.scope(1, 0), 1);
        Due.is("turns in all", x.told(6), 2);
    }

    private static void promise31OrderOfTicks() {
        ScopeWarden x = new ScopeWarden();
        Due.task(x, 0, 0, ".;.;.;.;.");
        Due.task(x, 0, 5, ".;.;.;.;.");
        Due.task(x, 0, 5, ".;.;.;.;.");
        int[] due = {1, 2, 1};
        for (int task : due) {
            Due.is("tick", x.tick(), task);
        }
        // 3 never had a turn, 2 had one ahead of 1's latest
        Due.task(x, 0, 5, ".;.;.;.;.");
        int[] then = {3, 2, 1, 3, 2, 1, 3, 2, 1, 3, 2, 1, 3, 2, 3, 0, 0, 0, 0, 0};
        for (int i = 0; i < 6; i++) {
            Due.is("tick", x.tick(), then[i]);
        }
        x.rank(0, 6);
        Due.is("tick of one that got ahead", x.tick(), 0);
        x.rank(0, 5);
        int[] last = {3, 2, 1, 0, 3, 2};
        for (int task : last) {
            Due.is("tick", x.tick(), task);
        }
    }

    private static void promise32Run() {
        ScopeWarden x = new ScopeWarden();
        Due.task(x, 0, 0, ".;.;.;+0=1");
        Due.task(x, 0, 1, ".;.");
        Due.refused("run(-1)", x, BAD, () -> x.run(-1));
        Due.refused("run(101)", x, BAD, () -> x.run(101));
        Due.refused("run(0)", x, 0, () -> x.run(0));
        Due.is("run(1)", x.run(1), 1);
        Due.is("turns of 1", x.of(1, 2), 1);
        Due.is("run(3)", x.run(3), 3);
        Due.is("run(100)", x.run(100), 2);
        Due.is("counter", x.counter(0), 1);
        Due.refused("run(100) again", x, 0, () -> x.run(100));
        Due.is("turns in all", x.told(6), 6);
    }

    private static void promise33Cancel() {
        ScopeWarden x = new ScopeWarden();
        Due.task(x, 0, 0, "+0=1;.;+0=1");
        x.tick();
        Due.refused("cancel(1)", x, NONE, () -> x.cancel(1));
        Due.refused("cancel(-1)", x, NONE, () -> x.cancel(-1));
        Due.is("cancel(0)", x.cancel(0), 1);
        is(x, 0, "asked for", 0, 100, 1, 1, 1, 2, 1, 3);
        Due.refused("cancel(0) again", x, 0, () -> x.cancel(0));
        Due.is("tick", x.tick(), 0);
        is(x, 0, "cancelled", 3, 100, 2, 1, 0, 2, 1, 3);
        Due.is("counter", x.counter(0), 1);
        Due.refused("cancel(0) when it is over", x, STATE, () -> x.cancel(0));
        Due.task(x, 0, 0, "k1");
        x.tick();
        Due.refused("cancel of one that is done", x, STATE, () -> x.cancel(1));
    }

    private static void promise34Rank() {
        ScopeWarden x = new ScopeWarden();
        Due.task(x, 0, -99, ".;.");
        Due.task(x, 0, 0, ".;.");
        Due.is("rank(0, 99)", x.rank(0, 99), 1);
        Due.is("rank(0, 1)", x.rank(0, 1), 199);
        Due.is("of(0, 1)", x.of(0, 1), 101);
        Due.is("tick", x.tick(), 0);
        Due.refused("rank(0, 100)", x, BAD, () -> x.rank(0, 100));
        Due.refused("rank(0, -100)", x, BAD, () -> x.rank(0, -100));
        Due.refused("rank(2, 100)", x, NONE, () -> x.rank(2, 100));
        Due.refused("rank(-1, 0)", x, NONE, () -> x.rank(-1, 0));
        x.tick();
        Due.refused("rank of one that is over", x, STATE, () -> x.rank(0, 0));
        Due.refused("rank of one that is over, badly", x, BAD, () -> x.rank(0, 100));
    }

    private static void promise35Of() {
        ScopeWarden x = new ScopeWarden();
        Due.task(x, 0, 7, "?0<1:+0=1;?0<1:+1=1;(;.;ab{!1;!2};(;.;!3;);)");
        is(x, 0, "new", 0, 107, 0, 1, 1, 0, 0, 10);
        x.tick();
        is(x, 0, "turn 1", 0, 107, 1, 1, 2, 4, 0, 10);
        x.tick();
        is(x, 0, "turn 2", 0, 107, 2, 1, 3, 7, 0, 10);
        x.tick();
        is(x, 0, "turn 3", 2, 107, 3, 1, 0, 7, 0, 10);
        Due.is("faults", Due.faults(x, 0), "3:-1 1:0");
        Due.is("of(0, 8)", x.of(0, 8), NONE);
        Due.is("of(0, -1)", x.of(0, -1), NONE);
        Due.is("of(1, 0)", x.of(1, 0), NONE);
        Due.is("of(-1, 0)", x.of(-1, 0), NONE);
        ScopeWarden y = new ScopeWarden();
        Due.task(y, 0, 0, "+0=1;?0<2:xz;+0=1");
        y.tick();
        is(y, 0, "a fault behind a ?", 2, 100, 1, 1, 0, 1, 0, 3);
        Due.is("it", Due.faults(y, 0), "104:-1");
    }

    private static void promise36Ready() {
        ScopeWarden x = new ScopeWarden();
        Due.is("ready(0) of none", x.ready(0), -5);
        Due.task(x, 0, 0, ".;.;.");
        Due.task(x, 0, 3, ".;.;.");
        Due.task(x, 0, 3, ".;.;.");
        Due.task(x, 0, 0, ".;.;.");
        int[] due = {1, 2, 0, 3, -5, -5};
        for (int i = 0; i < due.length; i++) {
            Due.is("ready(" + i + ")", x.ready(i), due[i]);
        }
        Due.is("ready(-1)", x.ready(-1), NONE);
        Due.is("ready(MIN)", x.ready(Integer.MIN_VALUE), NONE);
        Due.is("ready(MAX)", x.ready(Integer.MAX_VALUE), -5);
        x.tick();
        x.rank(0, 3);
        x.cancel(3);
        int[] then = {0, 2, 1, 3, -5};
        for (int i = 0; i < then.length; i++) {
            Due.is("then ready(" + i + ")", x.ready(i), then[i]);
        }
        x.run(100);
        Due.is("ready(0) when all are over", x.ready(0), -5);
        Due.is("told(5)", x.told(5), 0);
    }

    private static void stepsOfTasks() {
        ScopeWarden x = new ScopeWarden();
        x.open(0);
        Due.task(x, 0, 0, "aa;ab{+0=1;aq};xb;ma>1;+7=-3;?7<0:ac;?7<-3:ad");
        x.tick();
        Due.is("state", x.of(0, 0), 1);
        Due.is("owner of a", x.thing(0, 1), 1);
        Due.is("a is held", x.thing(0, 0), 0);
        Due.is("b is closed, ahead of the scope", x.thing(1, 2), 0);
        Due.is("q came by b's closer into b's owner", x.thing(2, 1), 2);
        Due.is("c came", Due.name(x, 3), "c");
        Due.is("d didn't", x.told(2), 4);
        Due.is("the scope of the task closed them in reverse", Due.log(x), "1 3 2");
        Due.is("counter", x.counter(7), -3);
    }

    private static void faultsOfSteps() {
        String[] steps = {"!8", "aa", "xz", "mz>0", "ma>1", "ma>9", "k1", "?0<1:!9", "(;aa", "(;(;)", "?0<0:!9", "ab", "k0",
            "xa", "ma>0"};
        String[] due = {"8:-1", "102:-1", "104:-1", "104:-1", "105:-1", "105:-1", "106:-1", "9:-1", "102:-1", "", "", "",
            "", "", ""};
        for (int i = 0; i < steps.length; i++) {
            ScopeWarden x = new ScopeWarden();
            x.open(0);
            x.shut(1);
            Due.take(x, 0, "a");
            String open = steps[i].startsWith("(") ? ";)" : "";
            Due.is("task", Due.task(x, 0, 0, "+0=0;" + steps[i] + open + ";+7=1"), 0);
            x.tick();
            Due.is("faults of " + steps[i], Due.faults(x, 0), due[i]);
            Due.is("state by " + steps[i], x.of(0, 0), due[i].isEmpty() ? 1 : 2);
            Due.is("what stands behind " + steps[i], x.counter(7), due[i].isEmpty() ? 1 : 0);
        }
    }

    private static void scopesOfTasks() {
        ScopeWarden x = new ScopeWarden();
        Due.task(x, 0, 0, "aa{!1};(;ab{!2};(;ac{!3};.;ad;);.;ae{!5};);+0=1;.;+0=1");
        x.tick();
        Due.is("scopes", x.told(0), 4);
        Due.is("parent of the inner one", x.scope(3, 1), 2);
        Due.is("parent of the outer one", x.scope(2, 1), 1);
        Due.is("owner of c", x.thing(2, 1), 3);
        Due.is("scope(3, 5)", x.scope(3, 5), 0);
        Due.is("of(0, 4)", x.of(0, 4), 3);
        x.tick();
        Due.is("the inner one", x.scope(3, 0), 1);
        Due.is("the outer one", x.scope(2, 0), 0);
        Due.is("log", Due.log(x), "3 2");
        Due.is("the inner one is still the task's", x.scope(3, 5), 0);
        Due.is("faults so far", Due.faults(x, 0), "3:2");
        Due.is("it goes on", x.of(0, 0), 0);
        Due.is("of(0, 4) then", x.of(0, 4), 2);
        x.tick();
        Due.is("owner of e", x.thing(4, 1), 2);
        Due.is("log", Due.log(x), "3 2 4 1");
        Due.is("counter", x.counter(0), 1);
        x.tick();
        Due.is("a fault that is gathered doesn't end the steps", x.counter(0), 2);
        is(x, 0, "at its end", 2, 100, 4, 1, 0, 14, 0, 14);
        Due.is("faults, in their order", Due.faults(x, 0), "3:2 5:4 2:1 1:0");
    }

    private static void safePoints() {
        ScopeWarden x = new ScopeWarden();
        Due.task(x, 0, 0, "+0=1;.");
        x.tick();
        is(x, 0, "a . at the end is the end", 1, 100, 1, 1, 0, 2, 0, 2);
        Due.task(x, 0, 0, ".");
        x.tick();
        is(x, 1, "a . alone", 1, 100, 1, 2, 0, 1, 0, 1);
        Due.task(x, 0, 0, "?0<9:.;+1=1;.;.;+1=1");
        x.tick();
        Due.is("a . behind a ? is nothing", x.counter(1), 1);
        x.tick();
        Due.is("a . ahead of another", x.of(2, 5), 4);
        Due.is("it goes on", x.of(2, 0), 0);
        x.tick();
        is(x, 2, "at its end", 1, 100, 3, 3, 0, 5, 0, 5);
        Due.task(x, 0, 0, "ab{.;+2=1;.};xb;+2=1");
        x.tick();
        Due.is("a . in a closer is nothing", x.counter(2), 2);
    }

    private static void faultsOfTasks() {
        ScopeWarden x = new ScopeWarden();
        Due.task(x, 0, 0, "aa{!1};ab{!2};.;xb;!7");
        x.run(100);
        Due.is("its own one first, then in their order", Due.faults(x, 0), "7:-1 2:1 1:0");
        Due.is("failed", x.of(0, 0), 2);
        Due.task(x, 0, 0, "ac{!3}");
        x.tick();
        Due.is("done, by the faults ahead of the shut", x.of(1, 0), 1);
        Due.is("those of the shut are gathered all the same", Due.faults(x, 1), "3:2");
        Due.task(x, 0, 0, "ad{!4};xd;+0=1;.;+0=1");
        x.run(100);
        Due.is("failed without a fault of its own", x.of(2, 0), 2);
        Due.is("its steps were done", x.counter(0), 2);
        Due.is("the first of them", Due.faults(x, 2), "4:3");
        Due.task(x, 0, 0, "ae{!5;+0=1};.;ae");
        x.tick();
        Due.is("faults of a task that goes on", x.faults(3), 0);
        x.tick();
        Due.is("its own one, that of the closer behind it", Due.faults(x, 3), "102:-1 5:4");
        Due.is("the faults of calls are others", x.faults(-1), 0);
        Due.is("those of the first task stay", Due.faults(x, 0), "7:-1 2:1 1:0");
    }

    private static void cancelledByStepsAndShuts() {
        ScopeWarden x = new ScopeWarden();
        Due.task(x, 0, 0, "k1;k1;.;k1");
        Due.task(x, 0, 0, "+0=1");
        Due.is("tick", x.tick(), 0);
        Due.is("asked for by a step, twice", x.of(1, 6), 1);
        Due.is("no fault by that", x.faults(0), 0);
        Due.is("tick", x.tick(), 1);
        Due.is("cancelled at its first turn", x.of(1, 0), 3);
        Due.is("none of its steps", x.counter(0), 0);
        x.tick();
        Due.is("one that is over can't be asked", Due.faults(x, 0), "106:-1");
        Due.task(x, 0, 0, "k2;+1=1");
        x.tick();
        Due.is("one that asks for itself and comes to its end", x.of(2, 0), 1);
        Due.is("of(2, 6)", x.of(2, 6), 1);
        Due.task(x, 0, 0, "k3;+1=1;.;+1=1");
        x.run(2);
        Due.is("one that asks for itself, and doesn't", x.of(3, 0), 3);
        Due.is("its steps", x.counter(1), 2);
        ScopeWarden y = new ScopeWarden();
        Due.task(y, 0, 0, "aa{!1};.;+0=1");
        y.tick();
        Due.is("shut of its scope", y.shut(1), 1);
        Due.is("it is ready still", y.of(0, 0), 0);
        Due.is("of(0, 4)", y.of(0, 4), 0);
        Due.is("its turn", y.tick(), 0);
        is(y, 0, "then", 3, 100, 2, 1, 0, 2, 0, 3);
        Due.is("the faults were the call's", y.faults(0), 0);
        Due.task(y, 0, 0, "ab{!2};(;.;ac{!3};);+0=1");
        y.tick();
        y.shut(3);
        y.tick();
        is(y, 1, "by the scope of its (", 3, 100, 2, 2, 0, 3, 0, 6);
        Due.is("the own scope is shut", Due.faults(y, 1), "2:1");
        Due.is("counter", y.counter(0), 0);
        Due.task(y, 0, 0, "(;);.;+0=1");
        y.run(2);
        Due.is("a scope that a ) shut doesn't cancel", y.of(2, 0), 1);
        Due.task(y, 0, 0, ".;+0=1");
        y.shut(0);
        y.tick();
        Due.is("by a shut of the root", y.of(3, 0), 3);
    }

    private static void cleaningUp() {
        ScopeWarden x = new ScopeWarden();
        Due.task(x, 0, 0, "aa{k0;+7=1};(;ab{ma>0;!2};(;ac{!3};.;+0=1;);)");
        x.tick();
        x.cancel(0);
        x.tick();
        Due.is("cancelled", x.of(0, 0), 3);
        Due.is("scopes shut, the innermost first", Due.log(x), "2 1");
        Due.is("faults", Due.faults(x, 0), "3:2 2:1");
        Due.is("a was moved out while the root was open", x.thing(0, 1), 0);
        Due.is("close of a: the task is over", x.close(0), 1);
        Due.is("fault", Due.faults(x, -1), "106:0");
        ScopeWarden y = new ScopeWarden();
        Due.task(y, 0, 0, "aa{k0};(;ab{mb>1;ma>1;ac};.;)");
        y.tick();
        Due.take(y, 1, "z");
        y.cancel(0);
        y.tick();
        // b is closed while scope 1 is still open, but scope 2 isn't; z, then a: 106
        Due.is("log", Due.log(y), "1 2 0");
        Due.is("faults", Due.faults(y, 0), "104:1 106:0");
        ScopeWarden z = new ScopeWarden();
        Due.task(z, 0, 0, "aa;(;ab{ma>1;xz};.;)");
        z.tick();
        Due.take(z, 1, "z=!6");
        z.cancel(0);
        z.tick();
        Due.is("a was moved behind z, into the own scope", Due.log(z), "2 1 0");
        Due.is("faults", Due.faults(z, 0), "6:2");
        ScopeWarden v = new ScopeWarden();
        Due.task(v, 0, 0, "(;.;)");
        v.tick();
        Due.task(v, 2, 5, "+0=1;.;+0=1");
        v.tick();
        v.rank(1, -5);
        v.tick();
        Due.is("0 is done", v.of(0, 0), 1);
        Due.is("the scope of 1 was in that of its (", v.scope(3, 0), 1);
        v.tick();
        Due.is("1 is cancelled", v.of(1, 0), 3);
    }
}
