/** The document's first lines, part by part: what the keeper is, told by a run of calls for each. */
public final class FirstLinesTest {
    private static final int STATE = ScopeWarden.STATE;

    public static void main(String[] args) {
        thingsInScopes();
        takenByNames();
        shutInReverse();
        moved();
        faultsGathered();
        turnsByPriorities();
        scopesOfTheirOwn();
        cancelledAtSafePoints();
        closersOfOthers();
        whatWouldBe();
        readAndSpelled();
        theImage();
        lastCalls();
        Doc.isQuoted("What it is");
        Due.end();
    }

    private static void says(String words) {
        Doc.says("What it is", words);
    }

    private static void thingsInScopes() {
        says("A keeper of things in scopes:");
        ScopeWarden x = new ScopeWarden();
        Due.is("open", x.open(0), 1);
        Due.is("take", Due.take(x, 1, "cup"), 0);
        Due.is("take", Due.take(x, 0, "box"), 1);
        Due.is("its scope", x.thing(0, 1), 1);
        Due.is("its scope", x.thing(1, 1), 0);
        Due.is("the scope's", Due.entries(x, 1), "0");
        Due.is("the root's", Due.entries(x, 0), "101 1");
    }

    private static void takenByNames() {
        says("things taken by names, with what is to be done when they are closed;");
        ScopeWarden x = new ScopeWarden();
        Due.take(x, 0, "cup=+3=40;+3=2");
        Due.is("its name", Due.name(x, 0), "cup");
        Due.is("by its name", Due.find(x, "cup"), 0);
        Due.is("nothing is done ahead of that", x.counter(3), 0);
        Due.is("close", x.close(0), 0);
        Due.is("it is done", x.counter(3), 42);
        Due.is("by its name, when it is closed", Due.find(x, "cup"), -5);
        Due.is("closed twice", x.close(0), STATE);
        Due.is("it is done once", x.counter(3), 42);
    }

    private static void shutInReverse() {
        says("scopes in one another, shut in reverse of how all came,");
        ScopeWarden x = new ScopeWarden();
        Due.take(x, 0, "a");
        x.open(0);
        Due.take(x, 1, "b");
        x.open(1);
        Due.take(x, 2, "c");
        Due.take(x, 0, "d");
        Due.take(x, 1, "e");
        Due.take(x, 2, "f");
        Due.is("the innermost is below the root", x.below(2, 0), 1);
        Due.is("shut", x.shut(0), 0);
        // what came to a scope ahead of another thing is closed behind it, whatever came to that scope later
        Due.is("the log", Due.log(x), "3 4 5 2 1 0");
        Due.is("open ones", x.told(1), 1);
    }

    private static void moved() {
        says("things moved between them;");
        ScopeWarden x = new ScopeWarden();
        x.open(0);
        Due.take(x, 1, "a");
        Due.take(x, 0, "b");
        Due.is("move", x.move(0, 0), 3);
        Due.is("what it left has no entry", x.scope(1, 2), 0);
        Due.is("where it came", Due.entries(x, 0), "101 1 0");
        x.shut(1);
        Due.is("it isn't closed with what it left", x.thing(0, 0), 0);
        x.shut(0);
        Due.is("the last to come is the first to be closed", Due.log(x), "0 1");
    }

    private static void faultsGathered() {
        says("faults gathered, the first one first, later ones behind it;");
        ScopeWarden x = new ScopeWarden();
        Due.take(x, 0, "a=!1");
        Due.take(x, 0, "b=+0=1");
        Due.take(x, 0, "c=!2;+0=100");
        Due.take(x, 0, "d=!3");
        Due.is("shut", x.shut(0), 3);
        Due.is("faults", Due.faults(x, -1), "3:3 2:2 1:0");
        Due.is("all are closed for all that", x.told(3), 0);
        Due.is("one without a fault is done", x.counter(0), 1);
    }

    private static void turnsByPriorities() {
        says("tasks that take turns by priorities,");
        ScopeWarden x = new ScopeWarden();
        Due.task(x, 0, 1, ".;.;.");
        Due.task(x, 0, 2, ".;.");
        Due.task(x, 0, 1, ".;.;.");
        int[] due = {1, 1, 0, 2, 0, 2, 0, 2, -5};
        for (int i = 0; i < due.length; i++) {
            Due.is("tick " + i, x.tick(), due[i]);
        }
    }

    private static void scopesOfTheirOwn() {
        says("with scopes of their own,");
        ScopeWarden x = new ScopeWarden();
        Due.task(x, 0, 0, "aa;.;(;ab;.;)");
        Due.task(x, 0, 0, "ac;.;ad;.;.");
        x.run(4);
        Due.is("of the first", x.of(0, 3), 1);
        Due.is("of the other", x.of(1, 3), 2);
        Due.is("what the first took", Due.entries(x, 1), "0 103");
        Due.is("what it took behind its (", Due.entries(x, 3), "2");
        Due.is("what the other took", Due.entries(x, 2), "1 3");
        x.run(2);
        Due.is("closed with them", Due.log(x), "2 0 3 1");
    }

    private static void cancelledAtSafePoints() {
        says("cancelled at safe points, that still clean up;");
        ScopeWarden x = new ScopeWarden();
        Due.task(x, 0, 0, "aa{+1=1};+0=1;k0;+0=1;.;+0=1");
        x.tick();
        Due.is("it goes on to its safe point", x.counter(0), 2);
        Due.is("where it isn't over yet", x.of(0, 0), 0);
        Due.is("tick", x.tick(), 0);
        Due.is("it goes on no more", x.counter(0), 2);
        Due.is("cancelled", x.of(0, 0), 3);
        Due.is("it cleaned up", x.counter(1), 1);
        Due.is("its scope", x.scope(1, 0), 1);
    }

    private static void closersOfOthers() {
        says("closers that close, move and cancel others;");
        ScopeWarden x = new ScopeWarden();
        x.open(0);
        Due.take(x, 1, "a");
        Due.take(x, 1, "b");
        Due.task(x, 0, 0, ".;.");
        Due.take(x, 0, "c=xa;mb>0;k0");
        Due.is("close", x.close(2), 0);
        Due.is("closed", Due.log(x), "0 2");
        Due.is("moved", Due.entries(x, 0), "101 102 1");
        Due.is("asked for", x.of(0, 6), 1);
        x.tick();
        Due.is("cancelled", x.of(0, 0), 3);
    }

    private static void whatWouldBe() {
        says("what would be closed, and when;");
        ScopeWarden x = new ScopeWarden();
        x.open(0);
        Due.take(x, 1, "a");
        Due.take(x, 0, "b");
        Due.take(x, 1, "c=xb");
        Due.is("of the scope alone", Due.plan(x, 1), "2 0");
        Due.is("as the closers do what they do", x.would(1, 3), 3);
        Due.task(x, 1, 0, "ad;.;ae");
        Due.is("behind one tick", x.trial(0, 1, 5), 0);
        Due.is("behind two", x.trial(0, 2, 5), 2);
        Due.is("all in thought alone", x.told(7) + x.told(6), 0);
        x.shut(1);
        Due.is("and then so", Due.log(x), "1 2 0");
    }

    private static void readAndSpelled() {
        says("texts of steps read and spelled;");
        ScopeWarden x = new ScopeWarden();
        Due.task(x, 0, 0, "+0=-007;(;ab{?1<00:!09};);mc>05");
        Due.is("spelled", Due.steps(x, 0), "+0=-7;(;ab{?1<0:!9};);mc>5");
        Due.take(x, 0, "d=k1;xe;.");
        Due.is("spelled", Due.closer(x, 0), "k1;xe;.");
        Due.is("one that can't be read", Due.task(x, 0, 0, "+0=1;;"), -105);
    }

    private static void theImage() {
        says("an image.");
        ScopeWarden x = new ScopeWarden();
        Due.take(x, 0, "a=!4");
        Due.task(x, 0, 0, "xa;.;.");
        String before = Due.world(x);
        Due.is("image", x.image(), 1);
        x.run(5);
        x.open(0);
        x.shut(0);
        Due.isTrue("much is another way then", !Due.world(x).equals(before));
        Due.is("undo", x.undo(), 1);
        Due.is("all", Due.world(x), before);
    }

    private static void lastCalls() {
        says("An object is used for at most 512 calls after it has been made; what later calls answer is free.");
        ScopeWarden x = new ScopeWarden();
        for (int call = 1; call <= 511; call++) {
            Due.is("call " + call, x.count(0, 1), call);
        }
        Due.is("call 512", x.counter(0), 511);
    }
}
