/** Term 1, sentence by sentence: scopes, things, counters, steps and faults at their edges. */
public final class Term1EdgesTest {
    private static final int NONE = ScopeWarden.NONE, STATE = ScopeWarden.STATE, FULL = ScopeWarden.FULL;

    public static void main(String[] args) {
        scopesHaveNumbers();
        scopesOfTasksHaveNumbersToo();
        theRoot();
        statesOfScopes();
        parents();
        thingsHaveNumbers();
        names();
        closers();
        statesOfThings();
        noTwoOfOneName();
        orderOfEntries();
        toTake();
        toMove();
        toCloseOneThatIsNotHeld();
        toClose();
        toShutOneThatIsNotOpen();
        toShut();
        toShutWhatClosersMove();
        counters();
        whereStepsAreDone();
        settings();
        faultSteps();
        takingSteps();
        takingStepsWhenFull();
        closingSteps();
        movingSteps();
        cancellingSteps();
        askingSteps();
        onlyInTasks();
        openingSteps();
        shuttingSteps();
        safePoints();
        gathered();
        gatheredInOneAnother();
        faultsOfACall();
        Doc.isQuoted("Term 1");
        Due.end();
    }

    private static void says(String words) {
        Doc.says("Term 1", words);
    }

    /** One with so many scopes, the root among them. */
    private static ScopeWarden scopes(int many) {
        ScopeWarden x = new ScopeWarden();
        for (int n = 1; n < many; n++) {
            x.open(0);
        }
        return x;
    }

    private static String nameOf(int n) {
        return "t" + (char) ('a' + n / 26) + (char) ('a' + n % 26);
    }

    /** One with so many things in the root, taa, tab, .. */
    private static ScopeWarden things(int many) {
        ScopeWarden x = new ScopeWarden();
        for (int n = 0; n < many; n++) {
            Due.is("take", Due.take(x, 0, nameOf(n)), n);
        }
        return x;
    }

    /** The faults that the close of a new thing in the root gathers. */
    private static String byCloser(ScopeWarden x, String closer) {
        int n = Due.take(x, 0, "zz=" + closer);
        int many = x.close(n);
        String faults = Due.faults(x, -1);
        Due.is("close of zz=" + closer, many, faults.isEmpty() ? 0 : faults.split(" ").length);
        return faults;
    }

    /** The faults of a new task in the root behind one turn. */
    private static String byTask(ScopeWarden x, String steps) {
        int n = Due.task(x, 0, 99, steps);
        Due.is("tick for " + steps, x.tick(), n);
        return Due.faults(x, n);
    }

    private static void scopesHaveNumbers() {
        says("SCOPES have numbers, as they come (0, 1, ..; 60 in all):");
        ScopeWarden x = new ScopeWarden();
        Due.is("scope(1, 0), ahead of it", x.scope(1, 0), NONE);
        for (int n = 1; n <= 59; n++) {
            Due.is("open", x.open(n / 2), n);
        }
        Due.is("told(0)", x.told(0), 60);
        Due.is("the greatest one's state", x.scope(59, 0), 0);
        Due.is("one above it", x.scope(60, 0), NONE);
        Due.is("one below the least", x.scope(-1, 0), NONE);
        Due.refused("open of a 61st", x, FULL, () -> x.open(0));
        x.shut(0);
        Due.refused("open of a 61st when all are shut", x, FULL, () -> x.open(0));
    }

    private static void scopesOfTasksHaveNumbersToo() {
        ScopeWarden x = scopes(57);
        Due.is("task", Due.task(x, 0, 0, "(;(;.;);)"), 0);
        Due.is("its own", x.of(0, 3), 57);
        x.tick();
        Due.is("told(0) with those of its (", x.told(0), 60);
        Due.is("the parent of the greatest one", x.scope(59, 1), 58);
        Due.refused("open of a 61st", x, FULL, () -> x.open(0));
        x.tick();
        Due.refused("open of a 61st when they are shut", x, FULL, () -> x.open(0));
    }

    private static void theRoot() {
        says("0 is the ROOT, OPEN at first.");
        ScopeWarden x = new ScopeWarden();
        Due.is("scope(0, 0)", x.scope(0, 0), 0);
        Due.is("scope(0, 1)", x.scope(0, 1), -5);
        Due.is("told(0)", x.told(0), 1);
        Due.is("told(1)", x.told(1), 1);
        Due.is("open(0)", x.open(0), 1);
    }

    private static void statesOfScopes() {
        says("A SCOPE is OPEN, SHUTTING, or SHUT;");
        ScopeWarden x = scopes(2);
        Due.take(x, 1, "a");
        Due.take(x, 1, "b=+0=1;ma>1;+0=1");
        Due.take(x, 1, "c=+1=1;ad;+1=1");
        Due.is("scope(1, 0)", x.scope(1, 0), 0);
        Due.is("shut(1)", x.shut(1), 2);
        Due.is("while it is SHUTTING it isn't OPEN", Due.faults(x, -1), "101:2 105:1");
        Due.is("but what it has is closed", Due.log(x), "2 1 0");
        Due.is("scope(1, 0) then", x.scope(1, 0), 1);
        Due.refused("take when it is SHUT", x, STATE, () -> x.take(1));
    }

    private static void parents() {
        says("each but the ROOT has a PARENT, of which it is an ENTRY while it isn't SHUT.");
        ScopeWarden x = new ScopeWarden();
        x.open(0);
        x.open(1);
        Due.is("the parent of 0", x.scope(0, 1), -5);
        Due.is("the parent of 1", x.scope(1, 1), 0);
        Due.is("the parent of 2", x.scope(2, 1), 1);
        Due.is("entries of 0", Due.entries(x, 0), "101");
        Due.is("entries of 1", Due.entries(x, 1), "102");
        Due.is("entries of 2", Due.entries(x, 2), "");
        x.shut(2);
        Due.is("entries of 1 then", Due.entries(x, 1), "");
        Due.is("the parent of 2 then", x.scope(2, 1), 1);
        x.shut(0);
        Due.is("entries of 0 then", Due.entries(x, 0), "");
    }

    private static void thingsHaveNumbers() {
        says("THINGS have numbers, as they come (0, 1, ..; 90 in all),");
        ScopeWarden x = things(89);
        Due.is("the one above the greatest", x.thing(89, 0), NONE);
        Due.is("the last one", Due.take(x, 0, "z"), 89);
        Due.is("its state", x.thing(89, 0), 0);
        Due.is("one above it", x.thing(90, 0), NONE);
        Due.is("one below the least", x.thing(-1, 0), NONE);
        Due.is("told(2)", x.told(2), 90);
        Due.is("the 91st", Due.take(x, 0, "y"), FULL);
        x.shut(0);
        Due.is("the 91st when all are closed", Due.take(x, 0, "y"), FULL);
        Due.is("told(2) then", x.told(2), 90);
        Due.is("told(3) then", x.told(3), 0);
    }

    private static void names() {
        says("a NAME (1 to 7 letters a .. z),");
        ScopeWarden x = new ScopeWarden();
        Due.is("no letter", Due.take(x, 0, ""), -100);
        Due.is("1 letter", Due.take(x, 0, "z"), 0);
        Due.is("7 letters", Due.take(x, 0, "azazaza"), 1);
        Due.is("8 letters", Due.take(x, 0, "azazazaz"), -107);
        Due.is("the sign below a", Due.take(x, 0, "`"), -100);
        Due.is("the sign above z", Due.take(x, 0, "{"), -100);
        Due.is("the sign below a, behind a letter", Due.take(x, 0, "a`"), -101);
        Due.is("the sign above z, behind a letter", Due.take(x, 0, "a{"), -101);
        Due.is("a great letter", Due.take(x, 0, "aZ"), -101);
        Due.is("the name of 0", Due.name(x, 0), "z");
        Due.is("the name of 1", Due.name(x, 1), "azazaza");
        for (char c = 'a'; c < 'z'; c++) {
            Due.is("a name " + c, Due.take(x, 0, "" + c), c - 'a' + 2);
            Due.is("its letter", x.name(c - 'a' + 2, 0), c);
        }
    }

    private static void closers() {
        says("a CLOSER (STEPS, perhaps none);");
        ScopeWarden x = new ScopeWarden();
        Due.take(x, 0, "a");
        Due.take(x, 0, "b=.");
        Due.is("steps of none", x.thing(0, 3), 0);
        Due.is("its closer", Due.closer(x, 0), "");
        Due.is("steps of one", x.thing(1, 3), 1);
        Due.is("its closer", Due.closer(x, 1), ".");
        Due.is("close of one without a closer", x.close(0), 0);
        Due.is("its state", x.thing(0, 0), 1);
    }

    private static void statesOfThings() {
        says("each is HELD (an ENTRY of one SCOPE, its owner), CLOSING (still an ENTRY of that), or CLOSED.");
        ScopeWarden x = scopes(2);
        Due.take(x, 1, "a=xa;+0=1");
        Due.take(x, 1, "b=mb>0;+0=1");
        Due.take(x, 1, "c=ac;+0=1");
        Due.is("HELD", x.thing(2, 0), 0);
        Due.is("an entry of its owner", Due.entries(x, 1), "0 1 2");
        Due.is("and of none else", Due.entries(x, 0), "101");
        Due.is("a CLOSING one isn't HELD for x", x.close(0), 1);
        Due.is("its fault", Due.faults(x, -1), "104:0");
        Due.is("nor for m", x.close(1), 1);
        Due.is("its fault", Due.faults(x, -1), "104:1");
        Due.is("nor for a", x.close(2), 0);
        Due.is("but it has its owner still", x.thing(3, 1), 1);
        Due.is("CLOSED", x.thing(2, 0), 1);
        Due.is("no entry then", Due.entries(x, 1), "3");
        Due.is("what stands behind the faults", x.counter(0), 1);
    }

    private static void noTwoOfOneName() {
        says("Of all that are HELD no two have one NAME.");
        ScopeWarden x = scopes(2);
        Due.take(x, 0, "a");
        Due.take(x, 1, "aa");
        Due.is("take of a held name, in another scope", Due.take(x, 1, "a"), STATE);
        Due.is("take of a held name, with a closer", Due.take(x, 1, "aa=."), STATE);
        Due.is("rename to a held name", Due.rename(x, 1, "a"), STATE);
        Due.is("a by a closer", byCloser(x, "aaa"), "102:2");
        Due.is("a by a task", byTask(x, "aa"), "102:-1");
        x.close(0);
        Due.is("take of a name that was held", Due.take(x, 1, "a"), 3);
        Due.is("find", Due.find(x, "a"), 3);
    }

    private static void orderOfEntries() {
        says("ENTRIES of a SCOPE stand in the order in which they came to it.");
        ScopeWarden x = new ScopeWarden();
        Due.is("entries of none", Due.entries(x, 0), "");
        x.open(0);
        Due.take(x, 0, "a");
        Due.take(x, 1, "b");
        x.open(0);
        Due.task(x, 0, 0, ".;(;.;)");
        Due.take(x, 0, "c");
        Due.is("things, scopes, and those of tasks", Due.entries(x, 0), "101 0 102 103 2");
        x.move(0, 1);
        x.move(1, 0);
        Due.is("entries of 0", Due.entries(x, 0), "101 102 103 2 1");
        Due.is("entries of 1", Due.entries(x, 1), "0");
        x.move(0, 0);
        Due.is("back, but behind", Due.entries(x, 0), "101 102 103 2 1 0");
    }

    private static void toTake() {
        says("TO TAKE a THING into a SCOPE: it comes, HELD, behind its ENTRIES.");
        ScopeWarden x = new ScopeWarden();
        Due.is("take into an empty one", Due.take(x, 0, "a"), 0);
        Due.is("entries", Due.entries(x, 0), "0");
        x.open(0);
        Due.is("take behind a scope", Due.take(x, 0, "b=ac"), 1);
        Due.is("entries", Due.entries(x, 0), "0 101 1");
        Due.is("HELD", x.thing(1, 0), 0);
        Due.is("told(3)", x.told(3), 2);
        x.close(1);
        Due.is("taken by a step, behind", Due.entries(x, 0), "0 101 2");
        Due.is("HELD", x.thing(2, 0), 0);
    }

    private static void toMove() {
        says("TO MOVE a HELD one to a SCOPE: it leaves its owner, and comes behind the ENTRIES of that "
                + "(also of the same).");
        ScopeWarden x = scopes(2);
        Due.take(x, 0, "a");
        Due.take(x, 0, "b");
        Due.take(x, 1, "c");
        Due.is("move to another", x.move(0, 1), 2);
        Due.is("it leaves its owner", Due.entries(x, 0), "101 1");
        Due.is("it comes behind", Due.entries(x, 1), "2 0");
        Due.is("move within the same", x.move(2, 1), 2);
        Due.is("it comes behind", Due.entries(x, 1), "0 2");
        Due.is("move of the last within the same", x.move(2, 1), 2);
        Due.is("it stays", Due.entries(x, 1), "0 2");
        Due.is("by a step, within the same", byCloser(x, "ma>01"), "");
        Due.is("it comes behind", Due.entries(x, 1), "2 0");
        Due.is("by a step, to another", byCloser(x, "ma>0"), "");
        Due.is("it leaves its owner", Due.entries(x, 1), "2");
        Due.is("it comes behind", Due.entries(x, 0), "101 1 0");
        Due.is("the only one of all, within the same", x.move(2, 1), 1);
    }

    private static void toCloseOneThatIsNotHeld() {
        says("TO CLOSE a THING that isn't HELD does nothing.");
        ScopeWarden x = scopes(2);
        Due.take(x, 1, "a=+0=1");
        Due.take(x, 1, "b=xa;+1=1");
        Due.refused("close of none", x, NONE, () -> x.close(2));
        Due.is("a SHUT by which one is closed by another", x.shut(1), 0);
        Due.is("it is closed once", Due.log(x), "0 1");
        Due.is("its steps are done once", x.counter(0), 1);
        Due.refused("close of a closed one", x, STATE, () -> x.close(0));
        Due.take(x, 0, "c=xd;+2=1");
        Due.take(x, 0, "d=xc;+2=1");
        x.close(2);
        Due.is("two that close one another", Due.log(x), "0 1 3 2");
        Due.is("the fault of the one inside", Due.faults(x, -1), "104:3");
        Due.is("the steps of the one outside", x.counter(2), 1);
    }

    private static void toClose() {
        says("Otherwise: it is CLOSING; its CLOSER's STEPS are done, in turn, until one has a FAULT (in it); then it is "
                + "CLOSED, no ENTRY any more, and the next number of THE LOG (the numbers of THINGS in the order in "
                + "which they were CLOSED).");
        ScopeWarden x = new ScopeWarden();
        Due.take(x, 0, "a=+0=1;?0<2:+0=10;?0<2:+0=100");
        Due.take(x, 0, "b=+1=1;!7;+1=10;!8");
        Due.take(x, 0, "c=xb;+2=1;xa");
        Due.take(x, 0, "d=?0<99:!9;+3=1");
        Due.is("close(2)", x.close(2), 1);
        Due.is("the steps of a, in turn", x.counter(0), 11);
        Due.is("those of b until its fault", x.counter(1), 1);
        Due.is("a fault in b is none of c's", x.counter(2), 1);
        Due.is("the log", Due.log(x), "1 0 2");
        Due.is("entries", Due.entries(x, 0), "3");
        Due.is("close(3)", x.close(3), 1);
        Due.is("a fault behind a ? is one of the step", x.counter(3), 0);
        Due.is("it is closed", x.thing(3, 0), 1);
        Due.is("the log", Due.log(x), "1 0 2 3");
        Due.is("entries", Due.entries(x, 0), "");
    }

    private static void toShutOneThatIsNotOpen() {
        says("TO SHUT a SCOPE that isn't OPEN does nothing.");
        ScopeWarden x = scopes(2);
        Due.task(x, 1, 0, "aa{!1};(;ab{!2};.;)");
        x.tick();
        Due.is("shut(1)", x.shut(1), 2);
        Due.is("faults", Due.faults(x, -1), "2:1 1:0");
        Due.refused("shut(1) again", x, STATE, () -> x.shut(1));
        Due.is("the turn by which its task is over", x.tick(), 0);
        Due.is("its scopes aren't shut again", x.faults(0), 0);
        Due.is("the log", Due.log(x), "1 0");
        Due.is("shut(0)", x.shut(0), 0);
        Due.is("the log", Due.log(x), "1 0");
    }

    private static void toShut() {
        says("Otherwise: it is SHUTTING; as long as it has an ENTRY that is HELD or OPEN, the last such one is CLOSED, "
                + "or SHUT; then it is SHUT (the ROOT: OPEN again).");
        ScopeWarden x = new ScopeWarden();
        Due.is("shut(0) of none", x.shut(0), 0);
        Due.is("the root is open", x.scope(0, 0), 0);
        Due.is("open(0)", x.open(0), 1);
        Due.is("shut(1) of none", x.shut(1), 0);
        Due.is("it is shut", x.scope(1, 0), 1);
        Due.take(x, 0, "a");
        x.open(0);
        Due.take(x, 2, "b");
        x.open(2);
        Due.take(x, 3, "c");
        Due.take(x, 2, "d");
        Due.take(x, 0, "e");
        x.open(0);
        Due.is("shut(0)", x.shut(0), 0);
        Due.is("the last entry first, scopes too", Due.log(x), "4 3 2 1 0");
        Due.is("open ones", x.told(1), 1);
        Due.is("the root is open", x.scope(0, 0), 0);
        Due.is("entries", Due.entries(x, 0), "");
        Due.is("take into the root then", Due.take(x, 0, "a"), 5);
    }

    private static void toShutWhatClosersMove() {
        ScopeWarden x = scopes(3);
        Due.take(x, 1, "a");
        Due.take(x, 1, "b");
        x.open(1);
        Due.take(x, 3, "c=mb>2");
        Due.take(x, 1, "d=ma>3");
        // d: a comes behind c in 3, which is OPEN still; a, then c, which moves b out of 1 to 2
        Due.is("shut(1)", x.shut(1), 0);
        Due.is("the log", Due.log(x), "3 0 2");
        Due.is("the owner of a at last", x.thing(0, 1), 3);
        Due.is("b got away", Due.entries(x, 2), "1");
    }

    private static void counters() {
        says("COUNTERS 0 .. 7 are ints (0 at first), wrapping.");
        ScopeWarden x = new ScopeWarden();
        for (int k = 0; k <= 7; k++) {
            Due.is("counter(" + k + ") at first", x.counter(k), 0);
        }
        Due.is("counter(-1)", x.counter(-1), ScopeWarden.NO);
        Due.is("counter(8)", x.counter(8), ScopeWarden.NO);
        Due.is("the greatest", x.count(7, Integer.MAX_VALUE), Integer.MAX_VALUE);
        Due.is("one above it", x.count(7, 1), Integer.MIN_VALUE);
        Due.is("one below the least", x.count(7, -1), Integer.MAX_VALUE);
        Due.is("twice the least", x.count(0, Integer.MIN_VALUE) + x.count(0, Integer.MIN_VALUE), Integer.MIN_VALUE);
        Due.is("it", x.counter(0), 0);
        x.count(1, Integer.MAX_VALUE);
        Due.is("a step", byCloser(x, "+1=99999;+7=1"), "");
        Due.is("it wraps, too", x.counter(1), Integer.MIN_VALUE + 99998);
        x.count(2, Integer.MIN_VALUE);
        Due.is("a step of a task", byTask(x, "+2=-99999;?2<-0:!1"), "");
        Due.is("it wraps, too", x.counter(2), Integer.MAX_VALUE - 99998);
    }

    private static void whereStepsAreDone() {
        says("STEPS are done in a SCOPE (a CLOSER's: the owner of the THING) by a TASK, or by none:");
        ScopeWarden x = scopes(4);
        Due.take(x, 1, "a=ap;!1");
        Due.take(x, 1, "b=aq;!2");
        Due.take(x, 0, "c=xb;ar;!3");
        x.move(1, 2);
        Due.is("by none", x.close(2), 2);
        Due.is("their faults are the call's", Due.faults(x, -1), "2:1 3:2");
        Due.is("what b took is in b's owner", x.thing(3, 1), 2);
        Due.is("what c took is in c's", x.thing(4, 1), 0);
        Due.task(x, 3, 0, "xa;as;(;at;.;)");
        x.tick();
        Due.is("by a task", Due.faults(x, 0), "1:0");
        Due.is("none of the call's", Due.faults(x, -1), "2:1 3:2");
        Due.is("what a took is in a's owner", x.thing(5, 1), 1);
        Due.is("what the task took is in its own scope", x.thing(6, 1), 4);
        Due.is("behind a ( in that of it", x.thing(7, 1), 5);
    }

    private static void settings() {
        says("+k=v: v comes to COUNTER k (k: one figure, 0 .. 7; v: 1 to 5 figures, - ahead, if one likes).");
        ScopeWarden x = new ScopeWarden();
        Due.is("k 0 and 7", byCloser(x, "+0=1;+7=2"), "");
        Due.is("counter(0)", x.counter(0), 1);
        Due.is("counter(7)", x.counter(7), 2);
        Due.is("5 figures", byCloser(x, "+0=99999;+7=-99999;+1=00000;+2=-00001"), "");
        Due.is("counter(0)", x.counter(0), 100000);
        Due.is("counter(7)", x.counter(7), -99997);
        Due.is("counter(1)", x.counter(1), 0);
        Due.is("counter(2)", x.counter(2), -1);
        Due.is("1 figure", byCloser(x, "+1=9;+2=-9;+3=-0"), "");
        Due.is("counter(1)", x.counter(1), 9);
        Due.is("counter(2)", x.counter(2), -10);
        Due.is("counter(3)", x.counter(3), 0);
        Due.is("k 8", Due.take(x, 0, "a=+8=1"), -103);
        Due.is("k of no figure", Due.take(x, 0, "a=+=1"), -103);
        Due.is("k of two figures", Due.take(x, 0, "a=+00=1"), -104);
        Due.is("k below 0", Due.take(x, 0, "a=+-0=1"), -103);
        Due.is("v of no figure", Due.take(x, 0, "a=+0="), -105);
        Due.is("v of no figure behind -", Due.take(x, 0, "a=+0=-"), -106);
        Due.is("v of six figures", Due.take(x, 0, "a=+0=000000"), -110);
        Due.is("v of six figures behind -", Due.take(x, 0, "a=+0=-000000"), -111);
        Due.is("v with two -", Due.take(x, 0, "a=+0=--1"), -106);
        Due.is("v with + ahead", Due.take(x, 0, "a=+0=+1"), -105);
    }

    private static void faultSteps() {
        says("!c: FAULT c (1 to 2 figures, 1 .. 99).");
        ScopeWarden x = new ScopeWarden();
        Due.is("the least", byCloser(x, "!1"), "1:0");
        Due.is("the least, of two figures", byCloser(x, "!01"), "1:1");
        Due.is("the greatest of one figure", byCloser(x, "!9"), "9:2");
        Due.is("the greatest", byCloser(x, "!99"), "99:3");
        Due.is("below the least", Due.take(x, 0, "a=!0"), -103);
        Due.is("below the least, of two figures", Due.take(x, 0, "a=!00"), -103);
        Due.is("above the greatest", Due.take(x, 0, "a=!100"), -105);
        Due.is("of no figure", Due.take(x, 0, "a=!"), -103);
        Due.is("with a - ahead", Due.take(x, 0, "a=!-1"), -103);
        Due.is("the least, in a task", byTask(x, "!1"), "1:-1");
        Due.is("the greatest, in a task", byTask(x, "!99"), "99:-1");
    }

    private static void takingSteps() {
        says("aN, aN{STEPS}: a THING of NAME N, with that CLOSER, is TAKEN into the SCOPE: FAULT 101: the SCOPE isn't "
                + "OPEN; 102: N is HELD; 103: 90 THINGS were there.");
        ScopeWarden x = scopes(2);
        Due.is("without a closer, and with one", byCloser(x, "aa;abcdefg{+0=1;xa}"), "");
        Due.is("the one", Due.closer(x, 1), "");
        Due.is("its name", Due.name(x, 1), "a");
        Due.is("the other", Due.closer(x, 2), "+0=1;xa");
        Due.is("its name", Due.name(x, 2), "bcdefg");
        Due.take(x, 1, "c=ad");
        x.shut(1);
        Due.is("101", Due.faults(x, -1), "101:3");
        Due.is("102", byCloser(x, "aa"), "102:4");
        x.open(0);
        Due.take(x, 2, "e=aa");
        x.shut(2);
        Due.is("101 ahead of 102", Due.faults(x, -1), "101:5");
        Due.take(x, 0, "f=af;!3");
        Due.is("the name of one that is CLOSING isn't HELD", x.close(6), 1);
        Due.is("it", Due.faults(x, -1), "3:6");
        Due.is("f", Due.find(x, "f"), 7);
    }

    private static void takingStepsWhenFull() {
        ScopeWarden x = things(88);
        Due.is("the last one, and one more", byCloser(x, "aq;ar"), "103:88");
        Due.is("told(2)", x.told(2), 90);
        Due.is("q", Due.find(x, "q"), 89);
        Due.task(x, 0, 0, "aq");
        Due.task(x, 0, 0, "ar");
        x.run(2);
        Due.is("102 ahead of 103", Due.faults(x, 0), "102:-1");
        Due.is("103", Due.faults(x, 1), "103:-1");
        x.shut(0);
        Due.task(x, 0, 0, "ar");
        x.tick();
        Due.is("103 when all are closed", Due.faults(x, 2), "103:-1");
        ScopeWarden y = things(89);
        y.open(0);
        Due.take(y, 1, "q=ar");
        y.shut(1);
        Due.is("101 ahead of 103", Due.faults(y, -1), "101:89");
    }

    private static void closingSteps() {
        says("xN: the HELD one of NAME N is CLOSED: 104: there is none.");
        ScopeWarden x = scopes(2);
        Due.take(x, 1, "a=!5");
        Due.take(x, 0, "aa");
        Due.is("in another scope", byCloser(x, "xa;+0=1"), "5:0");
        Due.is("what stands behind it", x.counter(0), 1);
        Due.is("104 when it is closed", byCloser(x, "xa"), "104:3");
        Due.is("104 of none", byCloser(x, "xb"), "104:4");
        Due.is("104 of one that is longer", byCloser(x, "xaaa"), "104:5");
        Due.is("104 of itself", byCloser(x, "xzz"), "104:6");
        Due.is("104 in a task", byTask(x, "xa"), "104:-1");
        Due.is("a task's", byTask(x, "xaa"), "");
        Due.is("it is closed", x.thing(1, 0), 1);
    }

    private static void movingSteps() {
        says("mN>s: it is MOVED to SCOPE s (1 to 2 figures): 104; 105: s isn't OPEN (or there is no such one).");
        ScopeWarden x = scopes(60);
        x.shut(2);
        Due.take(x, 0, "a");
        Due.is("1 figure", byCloser(x, "ma>9"), "");
        Due.is("its owner", x.thing(0, 1), 9);
        Due.is("2 figures", byCloser(x, "ma>03"), "");
        Due.is("its owner", x.thing(0, 1), 3);
        Due.is("the greatest", byCloser(x, "ma>59"), "");
        Due.is("its owner", x.thing(0, 1), 59);
        Due.is("the least", byCloser(x, "ma>00"), "");
        Due.is("its owner", x.thing(0, 1), 0);
        Due.is("one above the greatest", byCloser(x, "ma>60"), "105:5");
        Due.is("the greatest of two figures", byCloser(x, "ma>99"), "105:6");
        Due.is("one that is SHUT", byCloser(x, "ma>2"), "105:7");
        Due.is("104", byCloser(x, "mb>0"), "104:8");
        Due.is("104 ahead of 105", byCloser(x, "mb>2"), "104:9");
        Due.take(x, 4, "c=ma>4");
        x.shut(4);
        Due.is("one that is SHUTTING", Due.faults(x, -1), "105:10");
        Due.is("its owner still", x.thing(0, 1), 0);
        Due.is("105 in a task", byTask(new ScopeWarden(), "aa;ma>1;ma>2"), "105:-1");
        Due.is("no figure", Due.take(x, 0, "b=ma>"), -105);
        Due.is("3 figures", Due.take(x, 0, "b=ma>000"), -107);
        Due.is("a - ahead", Due.take(x, 0, "b=ma>-1"), -105);
    }

    private static void cancellingSteps() {
        says("kt: TASK t (a figure) is asked to be CANCELLED (it is over at its next TURN): 106: there is none, or it "
                + "is over.");
        ScopeWarden x = new ScopeWarden();
        Due.is("106 of none at all", byCloser(x, "k0"), "106:0");
        for (int t = 0; t < 10; t++) {
            Due.is("task", Due.task(x, 0, 0, "+0=1;.;+0=1"), t);
        }
        Due.is("the least and the greatest", byCloser(x, "k0;k9"), "");
        Due.is("of(0, 6)", x.of(0, 6), 1);
        Due.is("of(9, 6)", x.of(9, 6), 1);
        Due.is("of(8, 6)", x.of(8, 6), 0);
        Due.is("it is ready until its turn", x.of(0, 0), 0);
        Due.is("no fault when it was asked for", byCloser(x, "k0"), "");
        Due.is("the turn", x.tick(), 0);
        Due.is("it is over", x.of(0, 0), 3);
        Due.is("without a step", x.of(0, 5), 0);
        Due.is("106 of one that is over", byCloser(x, "k0"), "106:3");
        Due.is("no figure", Due.take(x, 0, "a=k"), -103);
        Due.is("two figures", Due.take(x, 0, "a=k01"), -104);
        ScopeWarden y = new ScopeWarden();
        Due.is("106 in a task, of one above the greatest", byTask(y, "k1"), "106:-1");
        Due.is("a task that cancels itself goes on in this turn", byTask(y, "k1;+0=1"), "");
        Due.is("and is done", y.of(1, 0), 1);
        Due.task(y, 0, 0, "k2;.;+0=1");
        y.run(2);
        Due.is("one with turns to come is not", y.of(2, 0), 3);
        Due.is("counter(0)", y.counter(0), 1);
    }

    private static void askingSteps() {
        says("?k<v:STEP: that STEP (no ? itself), if COUNTER k is below v.");
        ScopeWarden x = new ScopeWarden();
        x.count(0, 5);
        Due.is("one above", byCloser(x, "?0<6:!1"), "1:0");
        Due.is("the same", byCloser(x, "?0<5:!1"), "");
        Due.is("one below", byCloser(x, "?0<4:!1"), "");
        x.count(7, -99999);
        Due.is("one above the least", byCloser(x, "?7<-99998:!2"), "2:3");
        Due.is("the least", byCloser(x, "?7<-99999:!2"), "");
        x.count(6, Integer.MIN_VALUE);
        Due.is("below the least", byCloser(x, "?6<-99999:!3"), "3:5");
        x.count(5, Integer.MAX_VALUE);
        Due.is("above the greatest", byCloser(x, "?5<99999:!3"), "");
        Due.is("behind it any other step", byCloser(x, "?1<1:+1=1;?1<2:aa;?1<2:ma>0;?1<2:xa;?1<1:xa;?1<2:."), "");
        Due.is("a ? behind it", Due.take(x, 0, "b=?0<1:?0<1:."), -107);
        Due.is("k 8", Due.take(x, 0, "b=?8<1:."), -103);
        Due.is("v of six figures", Due.take(x, 0, "b=?0<123456:."), -110);
        Due.is("no step", Due.take(x, 0, "b=?0<1:"), -107);
        Due.is("in a task", byTask(x, "?0<6:!4"), "4:-1");
        Due.is("in a task, the same", byTask(x, "?0<5:!4"), "");
    }

    private static void onlyInTasks() {
        says("These two in TASKS only (not in a CLOSER, nor behind a ?):");
        ScopeWarden x = new ScopeWarden();
        Due.is("( in a closer", Due.take(x, 0, "a=(;)"), -102);
        Due.is(") in a closer", Due.take(x, 0, "a=.;)"), -104);
        Due.is("( in a closer of a task's", Due.task(x, 0, 0, "aa{(;)}"), -103);
        Due.is(") in a closer of a task's", Due.task(x, 0, 0, "(;aa{)};)"), -105);
        Due.is("( behind a ?", Due.task(x, 0, 0, "?0<1:(;)"), -105);
        Due.is(") behind a ?", Due.task(x, 0, 0, "(;?0<1:)"), -107);
        Due.is("both in a task", Due.task(x, 0, 0, "(;)"), 0);
    }

    private static void openingSteps() {
        says("( : a SCOPE comes, with the one of the latest ( that is still open (or the TASK's own) for its PARENT: "
                + "107: 60 SCOPES were there; 101.");
        ScopeWarden x = new ScopeWarden();
        Due.task(x, 0, 0, "(;(;);(;.;););(;.;)");
        x.tick();
        int[] parents = {-5, 0, 1, 2, 2};
        for (int n = 0; n < parents.length; n++) {
            Due.is("the parent of " + n, x.scope(n, 1), parents[n]);
        }
        x.tick();
        Due.is("behind all ) the task's own", x.scope(5, 1), 1);
        ScopeWarden y = scopes(57);
        Due.is("the 59th and 60th", byTask(y, "(;(;);)"), "");
        Due.is("told(0)", y.told(0), 60);
        ScopeWarden z = scopes(58);
        Due.is("the 60th, and one more", byTask(z, "(;+0=1;(;+0=1;);)"), "107:-1");
        Due.is("what stands behind the 60th", z.counter(0), 1);
        Due.is("told(0)", z.told(0), 60);
        Due.is("steps that are done", z.of(0, 5), 2);
        ScopeWarden w = scopes(59);
        w.shut(0);
        Due.is("107 though those that were there are shut", byTask(w, "(;)"), "107:-1");
    }

    private static void shuttingSteps() {
        says(") : that one is SHUT.");
        ScopeWarden x = new ScopeWarden();
        Due.task(x, 0, 0, "aa;(;ab;(;ac{!3};.;);.;);.");
        x.tick();
        x.tick();
        Due.is("the inner one", x.scope(3, 0), 1);
        Due.is("the outer one", x.scope(2, 0), 0);
        Due.is("the log", Due.log(x), "2");
        Due.is("its faults", Due.faults(x, 0), "3:2");
        x.tick();
        Due.is("the outer one", x.scope(2, 0), 1);
        Due.is("the log", Due.log(x), "2 1 0");
        Due.is("an empty one", byTask(x, "(;);xq"), "104:-1");
    }

    private static void safePoints() {
        says("And . : a safe point (in a CLOSER, or behind a ?, nothing; one that is the last of a TASK's STEPS is "
                + "their end).");
        ScopeWarden x = new ScopeWarden();
        Due.is("in a closer", byCloser(x, ".;+0=1;.;+0=1;."), "");
        Due.is("counter(0)", x.counter(0), 2);
        Due.task(x, 0, 0, "?1<9:.;?1<0:.;+1=1;.;+1=1;?1<9:.;.;.");
        x.tick();
        Due.is("behind a ?", x.counter(1), 1);
        Due.is("a safe point", x.of(0, 5), 4);
        x.tick();
        Due.is("the one ahead of the last", x.of(0, 0), 0);
        Due.is("steps", x.of(0, 5), 7);
        x.tick();
        Due.is("the last one", x.of(0, 0), 1);
        Due.is("steps", x.of(0, 5), 8);
        Due.task(x, 0, 0, "?1<9:.");
        x.tick();
        Due.is("the last one, behind a ?", x.of(1, 0), 1);
        Due.is("turns", x.of(1, 2), 1);
    }

    private static void gathered() {
        says("GATHERED: FAULTS that happen in CLOSERS while something is CLOSED or SHUT are gathered, in the order in "
                + "which they happen, each with its number and the THING; they end nothing but the CLOSER.");
        ScopeWarden x = scopes(2);
        Due.take(x, 1, "a=+0=1;!1;+0=1");
        Due.take(x, 1, "b=xa;+0=10;xa;+0=10");
        Due.take(x, 1, "c=xb;!3");
        Due.take(x, 1, "d");
        Due.take(x, 0, "e=!5");
        // e of the root is last; in 1 it is d, c (which closes b, which closes a), and none is left
        Due.is("shut(0)", x.shut(0), 4);
        Due.is("in the order in which they happen", Due.faults(x, -1), "5:4 1:0 104:1 3:2");
        Due.is("they end their closer", x.counter(0), 11);
        Due.is("nothing else", Due.log(x), "4 3 0 1 2");
        ScopeWarden y = new ScopeWarden();
        StringBuilder all = new StringBuilder();
        for (int n = 0; n < 90; n++) {
            Due.take(y, 0, nameOf(n) + "=!" + (n + 1));
            all.insert(0, (n == 0 ? "" : " ")).insert(0, (n + 1) + ":" + n);
        }
        Due.is("as many as there can be", y.would(0, 0), 90);
        Due.is("shut(0)", y.shut(0), 90);
        Due.is("all of them", Due.faults(y, -1), all.toString());
    }

    /** As many closers in one another, and scopes in one another, as there can be. */
    private static void gatheredInOneAnother() {
        ScopeWarden x = new ScopeWarden();
        for (int n = 0; n < 59; n++) {
            x.open(n);
        }
        StringBuilder all = new StringBuilder("104:89");
        for (int n = 0; n < 90; n++) {
            Due.take(x, n % 60, nameOf(n) + "=x" + nameOf(n + 1) + ";!" + (n + 1));
            if (n < 89) {
                all.insert(6, " " + (n + 1) + ":" + n);
            }
        }
        Due.is("would(0, 0)", x.would(0, 0), 90);
        Due.is("would(59, 0)", x.would(59, 0), 31);
        Due.is("close of the first", x.close(0), 90);
        Due.is("the innermost first", Due.faults(x, -1), all.toString());
        Due.is("the last of the log", x.log(89), 0);
        Due.is("all scopes are open still", x.told(1), 60);
        Due.is("shut of all", x.shut(0), 0);
        Due.is("the root is left", x.told(1), 1);
    }

    private static void faultsOfACall() {
        says("What a call gathers is its FAULTS: the first of them is the FAULT, the others stand behind it, as causes, "
                + "in their order.");
        ScopeWarden x = new ScopeWarden();
        Due.take(x, 0, "a=!1");
        Due.take(x, 0, "b=xa;!2");
        Due.take(x, 0, "c=xb;!3");
        Due.is("close(2)", x.close(2), 3);
        int[] numbers = {1, 2, 3};
        for (int i = 0; i < 3; i++) {
            Due.is("fault(-1, " + i + ", 0)", x.fault(-1, i, 0), numbers[i]);
            Due.is("fault(-1, " + i + ", 1)", x.fault(-1, i, 1), i);
        }
        Due.is("one behind the last", x.fault(-1, 3, 0), NONE);
        Due.is("one ahead of the first", x.fault(-1, -1, 0), NONE);
        Due.take(x, 0, "d");
        Due.is("a call that gathers none", x.close(3), 0);
        Due.is("it has no first one", x.fault(-1, 0, 0), NONE);
    }
}
