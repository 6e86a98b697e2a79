/** Term 2, sentence by sentence: tasks, turns and ticks at their edges. */
public final class Term2EdgesTest {
    private static final int NONE = ScopeWarden.NONE, BAD = ScopeWarden.BAD, STATE = ScopeWarden.STATE;
    private static final int FULL = ScopeWarden.FULL;

    public static void main(String[] args) {
        tasksHaveNumbers();
        tasksHaveScopes();
        tasksHaveStepsAndPriorities();
        states();
        askedForAheadOfItsTurn();
        ownScopeIsShut();
        scopeOfAnOpenBracketIsShut();
        scopeOfAClosedBracketDoesNotCount();
        stepsGoOn();
        stepsGoOnToAFault();
        doneOrFailed();
        failedByAFault();
        scopesAreShut();
        scopesAreShutWhenCancelled();
        orderOfFaults();
        gatheredFaultsDoNotEnd();
        greatestPriority();
        farthestBack();
        theLeast();
        turnsAreCounted();
        Doc.isQuoted("Term 2");
        Due.end();
    }

    private static void says(String words) {
        Doc.says("Term 2", words);
    }

    private static void ticks(ScopeWarden x, int... due) {
        for (int i = 0; i < due.length; i++) {
            Due.is("tick " + i, x.tick(), due[i]);
        }
    }

    private static void of(ScopeWarden x, int task, int what, int due) {
        Due.is("of(" + task + ", " + what + ")", x.of(task, what), due);
    }

    private static void tasksHaveNumbers() {
        says("TASKS 0 .. 9, as they come,");
        ScopeWarden x = new ScopeWarden();
        Due.is("of(0, 0), ahead of it", x.of(0, 0), NONE);
        for (int t = 0; t <= 9; t++) {
            Due.is("one above the greatest", x.of(t, 0), NONE);
            Due.is("task", Due.task(x, 0, 0, "+0=1"), t);
        }
        of(x, 9, 0, 0);
        of(x, 10, 0, NONE);
        of(x, -1, 0, NONE);
        Due.put(x, "+0=1");
        Due.refused("an 11th", x, FULL, () -> x.task(0, 0));
        Due.is("run", x.run(100), 10);
        Due.refused("an 11th when all are over", x, FULL, () -> x.task(0, 0));
        Due.is("told(4)", x.told(4), 10);
    }

    private static void tasksHaveScopes() {
        says("each with a SCOPE of its own (which comes with it),");
        ScopeWarden x = new ScopeWarden();
        x.open(0);
        Due.task(x, 1, 0, ".;.");
        Due.task(x, 0, 0, ".;.");
        of(x, 0, 3, 2);
        of(x, 1, 3, 3);
        Due.is("told(0)", x.told(0), 4);
        Due.is("it is an entry", Due.entries(x, 1), "102");
        Due.is("it is an entry", Due.entries(x, 0), "101 103");
        Due.is("scope(2, 5)", x.scope(2, 5), 0);
        Due.is("scope(3, 5)", x.scope(3, 5), 1);
        Due.is("scope(1, 5)", x.scope(1, 5), -5);
        ScopeWarden y = new ScopeWarden();
        for (int n = 1; n <= 58; n++) {
            y.open(0);
        }
        Due.is("the 60th", Due.task(y, 0, 0, "."), 0);
        of(y, 0, 3, 59);
        Due.put(y, ".");
        Due.refused("a 61st", y, FULL, () -> y.task(0, 0));
        Due.is("told(4)", y.told(4), 1);
    }

    private static void tasksHaveStepsAndPriorities() {
        says("STEPS, a PRIORITY (-99 .. 99);");
        ScopeWarden x = new ScopeWarden();
        Due.is("the least", Due.task(x, 0, -99, "."), 0);
        Due.is("the greatest", Due.task(x, 0, 99, "+0=1;."), 1);
        of(x, 0, 1, 1);
        of(x, 1, 1, 199);
        of(x, 0, 7, 1);
        of(x, 1, 7, 2);
        Due.is("no steps", Due.task(x, 0, 0, ""), -100);
        Due.put(x, ".");
        Due.refused("one below the least", x, BAD, () -> x.task(0, -100));
        Due.refused("one above the greatest", x, BAD, () -> x.task(0, 100));
        Due.is("rank to the least", x.rank(1, -99), 199);
        Due.is("rank to the greatest", x.rank(0, 99), 1);
        Due.refused("rank to one below the least", x, BAD, () -> x.rank(0, -100));
        Due.refused("rank to one above the greatest", x, BAD, () -> x.rank(0, 100));
    }

    private static void states() {
        says("READY, DONE, FAILED, or CANCELLED (these three: it is over); CANCELLED may be asked for.");
        ScopeWarden x = new ScopeWarden();
        String[] steps = {".;.", ".", "!1", ".;."};
        for (int t = 0; t < 4; t++) {
            Due.task(x, 0, t == 0 ? -1 : 0, steps[t]);
            of(x, t, 0, 0);
        }
        Due.is("cancel(3)", x.cancel(3), 1);
        of(x, 3, 6, 1);
        of(x, 3, 0, 0);
        ticks(x, 1, 2, 3);
        Due.is("told(5)", x.told(5), 1);
        for (int t = 0; t < 4; t++) {
            of(x, t, 0, t);
            int over = t;
            if (t > 0) {
                Due.refused("cancel of one that is over", x, STATE, () -> x.cancel(over));
                Due.refused("rank of one that is over", x, STATE, () -> x.rank(over, 0));
                int n = Due.take(x, 0, "a=k" + t);
                Due.is("k of one that is over", x.close(n), 1);
                Due.is("its fault", Due.faults(x, -1), "106:" + n);
            }
        }
        Due.is("cancel of the one that is ready", x.cancel(0), 1);
        Due.is("cancel of one that was asked for", x.cancel(0), 0);
    }

    private static void askedForAheadOfItsTurn() {
        says("A TURN of a READY TASK: is it asked for, or is one of its SCOPES (its own, those of its ( ) not OPEN: it "
                + "is over, CANCELLED.");
        ScopeWarden x = new ScopeWarden();
        Due.task(x, 0, 0, "+0=1;.;+0=1");
        x.cancel(0);
        ticks(x, 0, -5);
        of(x, 0, 0, 3);
        of(x, 0, 5, 0);
        Due.is("ahead of its first step", x.counter(0), 0);
        Due.task(x, 0, 0, "+0=1;.;+0=1");
        x.tick();
        x.cancel(1);
        of(x, 1, 4, 1);
        ticks(x, 1, -5);
        of(x, 1, 0, 3);
        of(x, 1, 4, 0);
        Due.is("ahead of its last step", x.counter(0), 1);
        Due.task(x, 0, 0, "+0=1;.;+0=1");
        x.tick();
        Due.task(x, 0, 0, "k2;.");
        ticks(x, 3, 2, -5);
        of(x, 2, 0, 3);
        Due.is("asked for by another one", x.counter(0), 2);
    }

    private static void ownScopeIsShut() {
        ScopeWarden x = new ScopeWarden();
        x.open(0);
        Due.task(x, 1, 0, "+0=1;.;+0=1");
        Due.task(x, 0, 0, "+0=1;.;+0=1");
        x.shut(2);
        of(x, 0, 0, 0);
        ticks(x, 0, 1);
        of(x, 0, 0, 3);
        of(x, 0, 6, 0);
        Due.is("its own one, ahead of its first step", x.counter(0), 1);
        x.shut(0);
        ticks(x, 1, -5);
        of(x, 1, 0, 3);
        Due.is("with all of the root", x.counter(0), 1);
        Due.task(x, 0, 0, "+0=1;.;+0=1");
        x.tick();
        x.shut(1);
        x.tick();
        of(x, 2, 0, 1);
        Due.is("another scope is none of its", x.counter(0), 3);
    }

    private static void scopeOfAnOpenBracketIsShut() {
        ScopeWarden x = new ScopeWarden();
        Due.task(x, 0, 0, "aa{!1};(;ab{!2};(;ac{!3};.;+0=1;);.;+0=1;)");
        x.tick();
        Due.is("shut of the one of its outer (", x.shut(2), 2);
        Due.is("faults of it", Due.faults(x, -1), "3:2 2:1");
        ticks(x, 0, -5);
        of(x, 0, 0, 3);
        Due.is("what its own scope gathers", Due.faults(x, 0), "1:0");
        Due.task(x, 0, 0, "ad{!4};(;ae{!5};(;af{!6};.;+0=1;);.;+0=1;)");
        x.tick();
        Due.is("shut of the one of its inner (", x.shut(6), 1);
        ticks(x, 1, -5);
        of(x, 1, 0, 3);
        Due.is("what its others gather", Due.faults(x, 1), "5:4 4:3");
        Due.is("no step was done", x.counter(0), 0);
        Due.is("no scope is left", x.told(1), 1);
    }

    private static void scopeOfAClosedBracketDoesNotCount() {
        ScopeWarden x = new ScopeWarden();
        Due.task(x, 0, 0, "(;);.;+0=1;(;(;);.;);.;+0=1");
        ticks(x, 0, 0, 0, 0, -5);
        of(x, 0, 0, 1);
        Due.is("all its steps were done", x.counter(0), 2);
    }

    private static void stepsGoOn() {
        says("Otherwise its STEPS go on, from where it is, up to and with the next . , or to their end, or to a FAULT in "
                + "one of them.");
        ScopeWarden x = new ScopeWarden();
        Due.task(x, 0, 0, ".;+0=1;.;.;+0=10;+0=100;?0<999:.;+0=1000");
        int[] done = {1, 3, 4, 8};
        int[] counter = {0, 1, 1, 1111};
        for (int i = 0; i < 4; i++) {
            of(x, 0, 0, 0);
            ticks(x, 0);
            of(x, 0, 5, done[i]);
            Due.is("counter(0)", x.counter(0), counter[i]);
        }
        of(x, 0, 0, 1);
        ticks(x, -5);
    }

    private static void stepsGoOnToAFault() {
        ScopeWarden x = new ScopeWarden();
        Due.task(x, 0, 0, ".;+0=1;!5;+0=1;.;+0=1");
        ticks(x, 0, 0, -5);
        of(x, 0, 0, 2);
        of(x, 0, 5, 2);
        Due.is("to a fault in one", x.counter(0), 1);
        Due.task(x, 0, 0, "!5");
        ticks(x, 1, -5);
        of(x, 1, 5, 0);
        Due.task(x, 0, 0, "?0<9:!6;+0=1");
        ticks(x, 2, -5);
        of(x, 2, 5, 0);
        Due.is("to a fault behind a ?", x.counter(0), 1);
    }

    private static void doneOrFailed() {
        says("Behind their end it is over: DONE, if it has no FAULTS then, else FAILED.");
        ScopeWarden x = new ScopeWarden();
        String[] steps = {"+0=1", ".", "aa{!1}", "aa{!2};xa", "(;aa{!3};)", "(;aa;)", "aa{!4};xa;.;+0=1;."};
        int[] due = {1, 1, 1, 2, 2, 1, 2};
        String[] faults = {"", "", "1:0", "2:1", "3:2", "", "4:4"};
        for (int t = 0; t < steps.length; t++) {
            Due.task(x, 0, 0, steps[t]);
            x.run(2);
            of(x, t, 0, due[t]);
            of(x, t, 4, 0);
            Due.is("faults of " + steps[t], Due.faults(x, t), faults[t]);
        }
    }

    private static void failedByAFault() {
        says("Behind a FAULT it is over, FAILED, that FAULT (THING -1) the first.");
        ScopeWarden x = new ScopeWarden();
        Due.take(x, 0, "a=!1");
        Due.take(x, 0, "b=!2");
        Due.task(x, 0, 0, "xa;.;xb;!3;+0=1");
        ticks(x, 0);
        Due.is("the first so far", Due.faults(x, 0), "1:0");
        ticks(x, 0, -5);
        of(x, 0, 0, 2);
        Due.is("the first then", Due.faults(x, 0), "3:-1 1:0 2:1");
        Due.is("fault(0, 0, 0)", x.fault(0, 0, 0), 3);
        Due.is("fault(0, 0, 1)", x.fault(0, 0, 1), -1);
        Due.is("trial(0, 0, 1)", x.trial(0, 0, 1), 3);
        Due.is("trial(0, 0, 2)", x.trial(0, 0, 2), -1);
        Due.task(x, 0, 0, "xq");
        ticks(x, 1);
        Due.is("of a step that has one, too", Due.faults(x, 1), "104:-1");
    }

    private static void scopesAreShut() {
        says("When it is over (CANCELLED, too), its SCOPES are SHUT, the innermost first, and what is gathered comes "
                + "behind;");
        ScopeWarden x = new ScopeWarden();
        Due.task(x, 0, 0, "aa{!1};(;ab{!2};ac{!3};(;ad{!4};!5;););ae");
        ticks(x, 0);
        Due.is("behind a fault", Due.faults(x, 0), "5:-1 4:3 3:2 2:1 1:0");
        Due.is("the log", Due.log(x), "3 2 1 0");
        of(x, 0, 4, 0);
        Due.is("told(1)", x.told(1), 1);
        Due.task(x, 0, 0, "aa{!6;k1};ab{k1;+0=1}");
        ticks(x, 1);
        Due.is("behind its end, and it is over by then", Due.faults(x, 1), "106:5 6:4");
        of(x, 1, 0, 1);
        of(x, 1, 4, 0);
    }

    private static void scopesAreShutWhenCancelled() {
        ScopeWarden x = new ScopeWarden();
        Due.task(x, 0, 0, "aa{!1};(;ab{!2};ma>1;(;ac{!3;+0=9};.;););ad");
        x.tick();
        x.cancel(0);
        ticks(x, 0);
        of(x, 0, 0, 3);
        Due.is("the innermost first", Due.faults(x, 0), "3:2 2:1 1:0");
        Due.is("the log", Due.log(x), "2 1 0");
        of(x, 0, 4, 0);
        Due.task(x, 0, 0, "ae{mf>0;k1;!7};af");
        x.cancel(1);
        ticks(x, 1);
        Due.is("without a step nothing is gathered", Due.faults(x, 1), "");
        Due.task(x, 0, 0, "ae{mf>0;k2;!7};af;(;ag{ah;aq};.;)");
        x.tick();
        x.cancel(2);
        ticks(x, 2);
        // e comes last, when f is closed
        Due.is("what cleans up finds what is left", Due.faults(x, 2), "101:5 104:3");
    }

    private static void orderOfFaults() {
        says("all that xN, ) and its being over gathered in all its TURNS, in their order, stands behind its FAULT (of "
                + "one without an own FAULT the first of it is the first).");
        ScopeWarden x = new ScopeWarden();
        String both = "aa{!1};ab{!2};(;ac{!3};.;xb;);.;ad{!4};xd;";
        Due.task(x, 0, 0, both + "!9");
        Due.is("run", x.run(100), 3);
        Due.is("with an own fault", Due.faults(x, 0), "9:-1 2:1 3:2 4:3 1:0");
        Due.task(x, 0, 0, both + ".");
        Due.is("run", x.run(100), 3);
        Due.is("without one", Due.faults(x, 1), "2:5 3:6 4:7 1:4");
        of(x, 1, 0, 2);
        Due.task(x, 0, 0, both + ".;.");
        x.run(3);
        x.cancel(2);
        Due.is("those ahead of its end", Due.faults(x, 2), "2:9 3:10 4:11");
        x.tick();
        Due.is("cancelled", Due.faults(x, 2), "2:9 3:10 4:11 1:8");
        ScopeWarden y = new ScopeWarden();
        Due.task(y, 0, 0, "aa{!1};xa;.;ab{!2};xb");
        Due.task(y, 0, 0, "ac{!3};xc;.;ad{!4};xd");
        y.run(100);
        Due.is("of two that take turns, each its own", Due.faults(y, 0), "1:0 2:2");
        Due.is("of two that take turns, each its own", Due.faults(y, 1), "3:1 4:3");
        Due.is("none is the call's", y.faults(-1), 0);
    }

    private static void gatheredFaultsDoNotEnd() {
        says("A FAULT that a STEP xN or ) gathers from CLOSERS doesn't end its STEPS.");
        ScopeWarden x = new ScopeWarden();
        Due.task(x, 0, 0, "aa{!1};xa;+0=1;(;ab{!2};);+0=1;.;+0=1");
        ticks(x, 0);
        Due.is("behind x and )", x.counter(0), 2);
        of(x, 0, 0, 0);
        of(x, 0, 5, 8);
        ticks(x, 0, -5);
        Due.is("to their end", x.counter(0), 3);
        of(x, 0, 0, 2);
        Due.is("faults", Due.faults(x, 0), "1:0 2:1");
    }

    private static void greatestPriority() {
        says("A TICK: of all READY TASKS that with the greatest PRIORITY,");
        ScopeWarden x = new ScopeWarden();
        Due.is("of none", x.tick(), -5);
        Due.task(x, 0, -99, ".;.");
        Due.task(x, 0, 98, ".;.");
        Due.task(x, 0, -98, ".;.");
        Due.task(x, 0, 99, ".;.");
        ticks(x, 3, 3, 1, 1, 2, 2, 0, 0, -5);
        Due.task(x, 0, 0, ".;.;.");
        Due.task(x, 0, 1, ".;.;.");
        ticks(x, 5);
        x.rank(4, 2);
        ticks(x, 4, 4, 4, 5, 5, -5);
    }

    private static void farthestBack() {
        says("of several that whose latest TURN is farthest back (never is farther than all),");
        ScopeWarden x = new ScopeWarden();
        Due.task(x, 0, 0, ".;.;.;.");
        ticks(x, 0);
        Due.task(x, 0, 0, ".;.;.;.");
        Due.task(x, 0, 0, ".;.;.;.");
        ticks(x, 1, 2, 0, 1, 2);
        Due.task(x, 0, 0, ".;.");
        Due.is("never is farther than all", x.tick(), 3);
        ticks(x, 0, 1, 2, 3, 0, 1, 2, -5);
        ScopeWarden y = new ScopeWarden();
        Due.task(y, 0, 0, ".;.;.");
        Due.task(y, 0, 1, ".;.");
        Due.task(y, 0, 0, ".;.;.");
        ticks(y, 1, 1, 0);
        // 2 never had one; then 0's is farther back, though it has the lesser number
        ticks(y, 2, 0, 2, 0, 2, -5);
    }

    private static void theLeast() {
        says("of several the least, has a TURN.");
        ScopeWarden x = new ScopeWarden();
        for (int t = 0; t < 10; t++) {
            Due.task(x, 0, 7, ".");
        }
        ticks(x, 0, 1, 2, 3, 4, 5, 6, 7, 8, 9, -5);
    }

    private static void turnsAreCounted() {
        says("TURNS are counted.");
        ScopeWarden x = new ScopeWarden();
        Due.is("told(6) at first", x.told(6), 0);
        Due.task(x, 0, 0, ".;.;.");
        Due.task(x, 0, 0, ".;.;.");
        of(x, 0, 2, 0);
        x.tick();
        x.cancel(1);
        x.run(100);
        of(x, 0, 2, 3);
        of(x, 1, 2, 1);
        Due.is("told(6)", x.told(6), 4);
        x.tick();
        Due.is("a tick without a turn is none", x.told(6), 4);
        StringBuilder points = new StringBuilder(".");
        for (int i = 1; i < 60; i++) {
            points.append(";.");
        }
        ScopeWarden y = new ScopeWarden();
        for (int t = 0; t < 3; t++) {
            Due.task(y, 0, 0, points.toString());
        }
        Due.is("the most that a run can", y.run(100), 100);
        Due.is("and what is left", y.run(100), 80);
        Due.is("as many as there can be", y.told(6), 180);
        of(y, 2, 2, 60);
    }
}
