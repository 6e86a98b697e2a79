/** Promises 38 to 45: rows, and the image. */
public final class RowsTest {
    public static void main(String[] args) {
        promise38Row();
        promise39Set();
        promise40Get();
        promise41Copy();
        copyOfLongest();
        promise42Lay();
        promise43Judge();
        promise44Image();
        promise45Undo();
        undoOfTasks();
        undoOfOpenScopesOfTasks();
        undoOfTasksThatAreOver();
        tasksThatComeBehindUndo();
        Due.end();
    }

    /** One with a log 0 1 2 .. (so many). */
    private static ScopeWarden logged(int many) {
        ScopeWarden x = new ScopeWarden();
        for (int i = 0; i < many; i++) {
            Due.take(x, 0, "a");
            x.close(i);
        }
        return x;
    }

    private static void promise38Row() {
        ScopeWarden x = new ScopeWarden();
        Due.refused("row(-1, 3)", x, ScopeWarden.NONE, () -> x.row(-1, 3));
        Due.refused("row(4, 3)", x, ScopeWarden.NONE, () -> x.row(4, 3));
        Due.refused("row(4, 41)", x, ScopeWarden.NONE, () -> x.row(4, 41));
        Due.refused("row(0, 41)", x, ScopeWarden.BAD, () -> x.row(0, 41));
        Due.refused("row(0, MAX)", x, ScopeWarden.BAD, () -> x.row(0, Integer.MAX_VALUE));
        Due.refused("row(0, -1)", x, -14, () -> x.row(0, -1));
        Due.refused("row(0, MIN)", x, -14, () -> x.row(0, Integer.MIN_VALUE));
        Due.is("row(3, 40)", x.row(3, 40), 1);
        Due.is("set(3, 39)", x.set(3, 39, 8), 1);
        Due.is("row(3, 40) again", x.row(3, 40), 1);
        Due.is("get(3, 39) then", x.get(3, 39), 0);
        x.set(3, 0, 8);
        x.row(3, 1);
        Due.is("get(3, 0) then", x.get(3, 0), 0);
        Due.is("get(3, 1) then", x.get(3, 1), ScopeWarden.NO);
        Due.is("row(3, 0)", x.row(3, 0), 1);
        Due.is("get(3, 0) of a row of none", x.get(3, 0), ScopeWarden.NO);
        Due.is("set(3, 0) of a row of none", x.set(3, 0, 1), -13);
        Due.is("set(2, 0) of another", x.set(2, 0, 1), -11);
    }

    private static void promise39Set() {
        ScopeWarden x = new ScopeWarden();
        x.row(1, 3);
        Due.is("set(1, 0)", x.set(1, 0, Integer.MIN_VALUE), 1);
        Due.is("set(1, 2)", x.set(1, 2, -7), 1);
        Due.is("get(1, 0)", x.get(1, 0), Integer.MIN_VALUE);
        Due.is("get(1, 1)", x.get(1, 1), 0);
        Due.is("get(1, 2)", x.get(1, 2), -7);
        Due.refused("set(1, 3)", x, -13, () -> x.set(1, 3, 1));
        Due.refused("set(1, -1)", x, -13, () -> x.set(1, -1, 1));
        Due.refused("set(1, MAX)", x, -13, () -> x.set(1, Integer.MAX_VALUE, 1));
        Due.refused("set(0, 0)", x, -11, () -> x.set(0, 0, 1));
        Due.refused("set(0, -1)", x, -11, () -> x.set(0, -1, 1));
        Due.refused("set(4, 0)", x, ScopeWarden.NONE, () -> x.set(4, 0, 1));
        Due.refused("set(-1, 0)", x, ScopeWarden.NONE, () -> x.set(-1, 0, 1));
    }

    private static void promise40Get() {
        ScopeWarden x = new ScopeWarden();
        x.row(0, 2);
        x.set(0, 1, -1);
        Due.is("get(0, 1)", x.get(0, 1), -1);
        Due.is("get(0, 2)", x.get(0, 2), ScopeWarden.NO);
        Due.is("get(0, -1)", x.get(0, -1), ScopeWarden.NO);
        Due.is("get(0, MAX)", x.get(0, Integer.MAX_VALUE), ScopeWarden.NO);
        Due.is("get(1, 0)", x.get(1, 0), ScopeWarden.NO);
        Due.is("get(4, 0)", x.get(4, 0), ScopeWarden.NO);
        Due.is("get(-1, 0)", x.get(-1, 0), ScopeWarden.NO);
    }

    private static void promise41Copy() {
        ScopeWarden x = new ScopeWarden();
        x.row(0, 5);
        x.row(1, 3);
        for (int i = 0; i < 5; i++) {
            x.set(0, i, i + 1);
        }
        Due.is("copy to another", x.copy(0, 1, 1, 0, 3), 3);
        Due.is("it", x.get(1, 0) * 100 + x.get(1, 1) * 10 + x.get(1, 2), 234);
        Due.is("copy onto itself, upwards", x.copy(0, 0, 0, 1, 4), 4);
        Due.is("it", row(x, 0), "1 1 2 3 4");
        Due.is("copy onto itself, downwards", x.copy(0, 1, 0, 0, 4), 4);
        Due.is("it", row(x, 0), "1 2 3 4 4");
        Due.is("copy of none", x.copy(0, 5, 1, 3, 0), 0);
        Due.refused("n below 0", x, -13, () -> x.copy(0, 0, 1, 0, -1));
        Due.refused("i below 0", x, -13, () -> x.copy(0, -1, 1, 0, 1));
        Due.refused("j below 0", x, -13, () -> x.copy(0, 0, 1, -1, 1));
        Due.refused("beyond the one's end", x, -13, () -> x.copy(0, 3, 1, 0, 3));
        Due.refused("beyond the other's end", x, -13, () -> x.copy(0, 0, 1, 1, 3));
        Due.refused("none, beyond the one's end", x, -13, () -> x.copy(0, 6, 1, 0, 0));
        Due.refused("none, beyond the other's end", x, -13, () -> x.copy(0, 0, 1, 4, 0));
        Due.refused("n and i as great as can be", x, -13,
                () -> x.copy(0, Integer.MAX_VALUE, 1, Integer.MAX_VALUE, Integer.MAX_VALUE));
        Due.refused("n as great as can be", x, -13, () -> x.copy(0, 1, 1, 1, Integer.MAX_VALUE));
        Due.refused("nothing in the one", x, -11, () -> x.copy(2, 0, 1, 0, -1));
        Due.refused("nothing in the other", x, -11, () -> x.copy(0, 0, 2, 0, 99));
        Due.refused("no such one", x, ScopeWarden.NONE, () -> x.copy(4, 0, 2, 0, 1));
        Due.refused("no such other", x, ScopeWarden.NONE, () -> x.copy(2, 0, 4, 0, 1));
        Due.refused("no such other", x, ScopeWarden.NONE, () -> x.copy(0, 0, -1, 0, 1));
    }

    private static void copyOfLongest() {
        ScopeWarden x = new ScopeWarden();
        x.row(0, 40);
        x.row(1, 40);
        x.set(0, 39, 7);
        Due.is("copy of a longest row", x.copy(0, 0, 1, 0, 40), 40);
        Due.is("its end", x.get(1, 39), 7);
        Due.refused("copy of one more", x, -13, () -> x.copy(0, 0, 1, 0, 41));
    }

    private static String row(ScopeWarden x, int row) {
        StringBuilder b = new StringBuilder();
        for (int i = 0; x.get(row, i) != ScopeWarden.NO; i++) {
            b.append(i == 0 ? "" : " ").append(x.get(row, i));
        }
        return b.toString();
    }

    private static void promise42Lay() {
        ScopeWarden x = logged(3);
        Due.refused("lay(0, 0) into nothing", x, -11, () -> x.lay(0, 0));
        Due.refused("lay(4, 0)", x, ScopeWarden.NONE, () -> x.lay(4, 0));
        Due.refused("lay(-1, 0)", x, ScopeWarden.NONE, () -> x.lay(-1, 0));
        x.row(0, 5);
        for (int i = 0; i < 5; i++) {
            x.set(0, i, 9);
        }
        Due.refused("lay from below 0", x, -13, () -> x.lay(0, -1));
        Due.refused("lay from the end", x, -13, () -> x.lay(0, 5));
        Due.refused("lay from far beyond", x, -13, () -> x.lay(0, Integer.MAX_VALUE));
        Due.is("lay(0, 1)", x.lay(0, 1), 3);
        Due.is("it", row(x, 0), "9 0 1 2 9");
        Due.is("lay(0, 2), to the end", x.lay(0, 2), 3);
        Due.is("it", row(x, 0), "9 0 0 1 2");
        Due.is("lay(0, 3), not all", x.lay(0, 3), -13);
        Due.is("it", row(x, 0), "9 0 0 0 1");
        ScopeWarden y = new ScopeWarden();
        y.row(1, 2);
        Due.is("lay of an empty log", y.lay(1, 0), 0);
        Due.is("lay of an empty log, from below 0", y.lay(1, -4), 0);
        Due.is("lay of an empty log, from beyond", y.lay(1, 40), 0);
        Due.is("lay of an empty log into nothing", y.lay(0, 0), -11);
        Due.is("lay of an empty log into none", y.lay(4, 0), ScopeWarden.NONE);
    }

    private static void promise43Judge() {
        ScopeWarden x = logged(3);
        Due.refused("judge(0, 0) by nothing", x, -11, () -> x.judge(0, 0));
        Due.refused("judge(4, 0)", x, ScopeWarden.NONE, () -> x.judge(4, 0));
        Due.refused("judge(-1, 0)", x, ScopeWarden.NONE, () -> x.judge(-1, 0));
        x.row(0, 4);
        x.lay(0, 1);
        Due.is("judge(0, 1)", x.judge(0, 1), -5);
        Due.is("judge(0, 0)", x.judge(0, 0), 1);
        Due.is("judge(0, 2)", x.judge(0, 2), 0);
        Due.is("judge(0, 4)", x.judge(0, 4), 200);
        Due.is("judge(0, -1)", x.judge(0, -1), 200);
        Due.is("judge(0, MIN)", x.judge(0, Integer.MIN_VALUE), 200);
        Due.is("judge(0, MAX)", x.judge(0, Integer.MAX_VALUE), 200);
        x.set(0, 2, 0);
        x.set(0, 3, 1);
        Due.is("judge(0, 2), that ends", x.judge(0, 2), 202);
        x.set(0, 3, 5);
        Due.is("judge(0, 2), another one first", x.judge(0, 2), 1);
        x.row(1, 0);
        Due.is("judge by a row of none", x.judge(1, 0), 200);
        ScopeWarden y = new ScopeWarden();
        y.row(0, 1);
        Due.is("judge of an empty log", y.judge(0, 0), -5);
        Due.is("judge of an empty log, from below 0", y.judge(0, -3), -5);
        Due.is("judge of an empty log, from beyond", y.judge(0, 7), -5);
        Due.is("judge of an empty log by nothing", y.judge(1, 0), -11);
        ScopeWarden z = new ScopeWarden();
        Due.take(z, 0, "a");
        Due.take(z, 0, "b");
        z.shut(0);
        z.row(0, 2);
        Due.is("judge tells the number of the thing", z.judge(0, 0), 1);
    }

    private static void promise44Image() {
        ScopeWarden x = new ScopeWarden();
        Due.is("image of none", x.image(), 0);
        Due.take(x, 0, "a");
        x.open(0);
        Due.take(x, 1, "b");
        Due.take(x, 1, "c");
        x.close(0);
        String before = Due.all(x);
        Due.is("image", x.image(), 2);
        Due.is("image changes nothing", Due.all(x), before);
        x.shut(0);
        Due.is("the latest image counts", x.undo(), 2);
        x.shut(0);
        Due.is("image when none is held", x.image(), 0);
        Due.is("undo to that", x.undo(), 0);
    }

    private static void promise45Undo() {
        ScopeWarden x = new ScopeWarden();
        Due.refused("undo without an image", x, ScopeWarden.STATE, x::undo);
        x.open(0);
        Due.take(x, 1, "a=!3;+0=1");
        Due.take(x, 1, "b=+1=5");
        Due.take(x, 0, "c=!8");
        x.close(2);
        x.count(6, 60);
        String then = Due.world(x);
        x.image();
        Due.take(x, 1, "d=+2=2");
        Due.rename(x, 0, "q");
        x.move(1, 0);
        x.open(1);
        x.count(6, 1);
        x.shut(1);
        Due.is("faults of that", Due.faults(x, -1), "3:0");
        x.row(2, 3);
        x.set(2, 1, 5);
        x.spell(1);
        Due.put(x, "xyz");
        Due.is("undo", x.undo(), 2);
        Due.is("all of it", Due.world(x), then);
        Due.is("faults of the latest call are laid back", Due.faults(x, -1), "8:2");
        Due.is("the tape stays", x.told(8), 3);
        Due.is("the paper stays", Due.paper(x), "+1=5");
        Due.is("rows stay", x.get(2, 1), 5);
        Due.is("undo again", x.undo(), 2);
        Due.is("all of it", Due.world(x), then);
        Due.is("a thing that comes then", Due.take(x, 0, "e=!9"), 3);
        Due.is("its closer", Due.closer(x, 3), "!9");
        Due.is("it is held", x.thing(3, 0), 0);
        Due.is("its place in the log", x.thing(3, 2), -5);
        Due.is("its owner", x.thing(3, 1), 0);
        Due.is("a scope that comes then", x.open(0), 2);
        Due.is("it is open", x.scope(2, 0), 0);
        Due.is("the closers of those that were there", Due.closer(x, 0), "!3;+0=1");
        x.shut(0);
        Due.is("undo behind that", x.undo(), 2);
        Due.is("all of it", Due.world(x), then);
    }

    private static void undoOfTasks() {
        ScopeWarden x = new ScopeWarden();
        Due.task(x, 0, 3, "+0=1;(;aa{!4};.;xa;);.;+0=1;.;!7");
        Due.task(x, 0, 3, ".;.;.;.");
        x.run(3);
        String then = Due.world(x);
        x.image();
        Due.is("run", x.run(100), 5);
        String end = Due.world(x);
        Due.is("of(0, 0)", x.of(0, 0), 2);
        Due.is("faults", Due.faults(x, 0), "7:-1 4:0");
        x.undo();
        Due.is("all of it", Due.world(x), then);
        x.cancel(1);
        x.rank(1, -3);
        x.undo();
        Due.is("all of it", Due.world(x), then);
        x.run(100);
        Due.is("done again", Due.world(x), end);
    }

    private static void undoOfOpenScopesOfTasks() {
        ScopeWarden x = new ScopeWarden();
        Due.task(x, 0, 0, "aa;(;ab{!2};(;.;ac;);+0=1;.;);.;+0=1");
        x.tick();
        x.image();
        Due.is("trial: what the ) shuts", x.trial(0, 1, 5), 1);
        Due.is("trial: what both ) shut", x.trial(0, 2, 5), 2);
        Due.is("trial: what all shut", x.trial(0, 3, 5), 3);
        for (int i = 0; i < 2; i++) {
            x.undo();
            x.tick();
            Due.is("c was taken into the innermost one", x.thing(2, 1), 3);
            Due.is("log", Due.log(x), "2");
            x.tick();
            Due.is("log", Due.log(x), "2 1");
            x.tick();
            Due.is("log", Due.log(x), "2 1 0");
            Due.is("faults", Due.faults(x, 0), "2:1");
        }
    }

    private static void undoOfTasksThatAreOver() {
        ScopeWarden x = new ScopeWarden();
        Due.task(x, 0, 3, "+0=1");
        Due.task(x, 0, 2, "+0=1;!9");
        Due.task(x, 0, 1, "+0=1;.;+0=1");
        Due.task(x, 0, 0, "+0=1;.;+0=1");
        x.run(3);
        x.cancel(2);
        x.run(1);
        x.cancel(3);
        String then = Due.world(x);
        Due.is("states", x.of(0, 0) * 1000 + x.of(1, 0) * 100 + x.of(2, 0) * 10 + x.of(3, 0), 1230);
        x.image();
        x.run(9);
        Due.is("the last one", x.of(3, 0), 3);
        Due.is("undo", x.undo(), 0);
        Due.is("all of it", Due.world(x), then);
        Due.is("ready ones", x.told(5), 1);
        Due.is("trial", x.trial(1, 0, 1), 9);
        Due.is("trial", x.trial(1, 0, 3), 2);
        Due.is("trial", x.trial(3, 1, 3), 3);
    }

    private static void tasksThatComeBehindUndo() {
        ScopeWarden x = new ScopeWarden();
        x.image();
        Due.task(x, 0, 7, "+0=1;.;aa{!5};.;+0=1;(;!7;)");
        x.tick();
        x.tick();
        x.tick();
        x.undo();
        Due.is("task with the number of one that is gone", Due.task(x, 0, -1, ".;+1=1"), 0);
        int[] due = {0, 99, 0, 1, 1, 0, 0, 2};
        for (int what = 0; what < due.length; what++) {
            Due.is("of(0, " + what + ")", x.of(0, what), due[what]);
        }
        Due.is("its faults", x.faults(0), 0);
        x.cancel(0);
        x.undo();
        Due.task(x, 0, 0, "+1=1");
        Due.is("of(0, 6)", x.of(0, 6), 0);
        Due.task(x, 0, 0, "+1=1");
        Due.is("tick of the first", x.tick(), 0);
        Due.is("it is done", x.of(0, 0), 1);
        Due.is("its scope", x.scope(1, 0), 1);
        Due.is("tick of the other", x.tick(), 1);
    }
}
