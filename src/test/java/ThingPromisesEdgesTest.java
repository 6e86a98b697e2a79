/** Promises 1 to 29, sentence by sentence, at their edges: texts, scopes and things. */
public final class ThingPromisesEdgesTest {
    private static final int NONE = ScopeWarden.NONE, BAD = ScopeWarden.BAD, STATE = ScopeWarden.STATE;
    private static final int FULL = ScopeWarden.FULL, MIN = Integer.MIN_VALUE, MAX = Integer.MAX_VALUE;

    public static void main(String[] args) {
        promise1();
        promise2();
        promise3();
        promise4();
        promise5();
        promise6();
        promise7();
        promise8();
        promise8WhenFull();
        promise9();
        promise10();
        promise11();
        promise12();
        promise13();
        promise14();
        promise14States();
        promise14WithinAndAbove();
        promise15();
        promise16();
        promise17();
        promise18();
        promise19();
        promise20();
        promise21();
        promise22();
        promise23();
        promise24();
        promise25();
        promise25TakenAndHeld();
        promise26();
        promise26Ticks();
        thoughtsAreAsDeeds();
        promise27();
        promise28();
        promise29();
        for (int n = 1; n <= 29; n++) {
            Doc.isQuoted("Promise " + n);
        }
        Due.end();
    }

    private static void says(int promise, String words) {
        Doc.says("Promise " + promise, words);
    }

    private static String nameOf(int n) {
        return "t" + (char) ('a' + n / 26) + (char) ('a' + n % 26);
    }

    /** One with so many scopes, the root among them, all others in it. */
    private static ScopeWarden scopes(int many) {
        ScopeWarden x = new ScopeWarden();
        for (int n = 1; n < many; n++) {
            x.open(0);
        }
        return x;
    }

    /** One with so many things in the root. */
    private static ScopeWarden things(int many) {
        ScopeWarden x = new ScopeWarden();
        for (int n = 0; n < many; n++) {
            Due.take(x, 0, nameOf(n));
        }
        return x;
    }

    private static void promise1() {
        says(1, "The ROOT alone.");
        ScopeWarden x = new ScopeWarden();
        int[] told = {1, 1, 0, 0, 0, 0, 0, 0, 0, 0, NONE};
        for (int what = 0; what < told.length; what++) {
            Due.is("told(" + what + ")", x.told(what), told[what]);
        }
        Due.is("scope(0, 0)", x.scope(0, 0), 0);
        Due.is("scope(1, 0)", x.scope(1, 0), NONE);
        Due.is("entry(0, 0)", x.entry(0, 0), NONE);
        Due.is("thing(0, 0)", x.thing(0, 0), NONE);
        Due.is("of(0, 0)", x.of(0, 0), NONE);
        Due.is("log(0)", x.log(0), NONE);
        Due.is("faults(-1)", x.faults(-1), 0);
        Due.is("undo()", x.undo(), STATE);
        Due.is("get(0, 0)", x.get(0, 0), ScopeWarden.NO);
        Due.is("counter(0)", x.counter(0), 0);
        Due.is("counter(7)", x.counter(7), 0);
    }

    private static void promise2() {
        says(2, "A byte (1 .. 127) comes behind THE TAPE's: how many it has.");
        ScopeWarden x = new ScopeWarden();
        Due.is("feed(1), the least", x.feed(1), 1);
        Due.is("feed(127), the greatest", x.feed(127), 2);
        x.clear();
        Due.is("feed", x.feed('b'), 1);
        Due.is("behind it", x.feed('a'), 2);
        x.take(0);
        Due.is("their order", Due.name(x, 0), "ba");
        says(2, "BAD;");
        for (int letter : new int[] {0, -1, 128, 256 + 'a', MIN, MAX}) {
            Due.refused("feed(" + letter + ")", x, BAD, () -> x.feed(letter));
        }
        says(2, "FULL.");
        for (int i = 1; i <= 120; i++) {
            Due.is("feed", x.feed('b'), i);
        }
        Due.refused("the 121st", x, FULL, () -> x.feed('b'));
        Due.refused("the 121st, a bad one", x, BAD, () -> x.feed(0));
        x.clear();
        Due.is("the first again", x.feed('b'), 1);
    }

    private static void promise3() {
        says(3, "THE TAPE is empty then: how many bytes it had.");
        ScopeWarden x = new ScopeWarden();
        Due.is("of none", x.clear(), 0);
        x.feed('a');
        Due.is("of one", x.clear(), 1);
        Due.is("told(8)", x.told(8), 0);
        Due.is("again", x.clear(), 0);
        for (int i = 0; i < 125; i++) {
            x.feed('a');
        }
        Due.is("of all", x.clear(), 120);
        Due.is("feed then", x.feed('a'), 1);
    }

    private static void promise4() {
        says(4, "THE PAPER becomes the SPELLING of a THING's CLOSER: how many bytes (0: it has none).");
        ScopeWarden x = new ScopeWarden();
        Due.take(x, 0, "a=+0=007;.");
        Due.take(x, 0, "b");
        Due.is("spell(0)", x.spell(0), 6);
        Due.is("the paper", Due.paper(x), "+0=7;.");
        Due.is("spell(1)", x.spell(1), 0);
        Due.is("the paper", Due.paper(x), "");
        x.close(0);
        Due.is("of a CLOSED one", x.spell(0), 6);
        StringBuilder b = new StringBuilder("a=");
        while (b.length() < 119) {
            b.append(".;");
        }
        b.setLength(119);
        Due.take(x, 0, b.toString());
        Due.is("of the longest", x.spell(2), 117);
        says(4, "NONE.");
        Due.refused("spell(3)", x, NONE, () -> x.spell(3));
        Due.refused("spell(-1)", x, NONE, () -> x.spell(-1));
        Due.refused("spell(MIN)", x, NONE, () -> x.spell(MIN));
        Due.refused("spell(MAX)", x, NONE, () -> x.spell(MAX));
    }

    private static void promise5() {
        says(5, "THE PAPER becomes the SPELLING of a TASK's STEPS: how many bytes.");
        ScopeWarden x = new ScopeWarden();
        Due.refused("spellTask(0) of none", x, NONE, () -> x.spellTask(0));
        Due.task(x, 0, 0, "(;+0=-00;)");
        Due.task(x, 0, 0, ".");
        Due.is("spellTask(0)", x.spellTask(0), 8);
        Due.is("the paper", Due.paper(x), "(;+0=0;)");
        Due.is("spellTask(1)", x.spellTask(1), 1);
        Due.is("the paper", Due.paper(x), ".");
        x.run(2);
        Due.is("of one that is over", x.spellTask(0), 8);
        says(5, "NONE.");
        Due.refused("spellTask(2)", x, NONE, () -> x.spellTask(2));
        Due.refused("spellTask(-1)", x, NONE, () -> x.spellTask(-1));
        Due.refused("spellTask(MAX)", x, NONE, () -> x.spellTask(MAX));
    }

    private static void promise6() {
        says(6, "Byte i of THE PAPER.");
        ScopeWarden x = new ScopeWarden();
        Due.is("of an empty one", x.paper(0), NONE);
        Due.take(x, 0, "a=xz");
        x.spell(0);
        Due.is("the first", x.paper(0), 'x');
        Due.is("the last", x.paper(1), 'z');
        says(6, "NONE.");
        Due.is("one behind the last", x.paper(2), NONE);
        Due.is("one ahead of the first", x.paper(-1), NONE);
        Due.is("paper(MIN)", x.paper(MIN), NONE);
        Due.is("paper(MAX)", x.paper(MAX), NONE);
    }

    private static void promise7() {
        says(7, "A SCOPE comes, with a PARENT: its number.");
        ScopeWarden x = new ScopeWarden();
        Due.is("the first", x.open(0), 1);
        Due.is("in another", x.open(1), 2);
        Due.is("its parent", x.scope(2, 1), 1);
        Due.is("it is OPEN", x.scope(2, 0), 0);
        says(7, "NONE: parent;");
        Due.refused("open(3)", x, NONE, () -> x.open(3));
        Due.refused("open(-1)", x, NONE, () -> x.open(-1));
        Due.refused("open(MIN)", x, NONE, () -> x.open(MIN));
        Due.refused("open(MAX)", x, NONE, () -> x.open(MAX));
        says(7, "STATE: that isn't OPEN;");
        x.shut(1);
        Due.refused("open(1)", x, STATE, () -> x.open(1));
        Due.refused("open(2)", x, STATE, () -> x.open(2));
        says(7, "FULL: 60 were there.");
        ScopeWarden y = scopes(59);
        Due.is("the 60th", y.open(0), 59);
        Due.refused("the 61st", y, FULL, () -> y.open(0));
        y.shut(59);
        Due.refused("the 61st, when one is shut", y, FULL, () -> y.open(0));
    }

    private static void promise8() {
        says(8, "A THING is TAKEN into a SCOPE: THE TAPE is its NAME, or its NAME, = and its CLOSER: its number;");
        ScopeWarden x = scopes(2);
        Due.is("its name", Due.take(x, 1, "a"), 0);
        Due.is("its name, = and its closer", Due.take(x, 0, "b=+0=1"), 1);
        Due.is("the owner", x.thing(0, 1), 1);
        Due.is("its closer", Due.closer(x, 1), "+0=1");
        says(8, "-100 less the FAULT.");
        Due.is("of an empty tape", Due.take(x, 0, ""), -100);
        Due.is("of no closer behind =", Due.take(x, 0, "c="), -102);
        Due.is("of two =", Due.take(x, 0, "c=="), -102);
        Due.is("told(2)", x.told(2), 2);
        says(8, "NONE: scope;");
        Due.put(x, "c");
        Due.refused("take(2)", x, NONE, () -> x.take(2));
        Due.refused("take(-1)", x, NONE, () -> x.take(-1));
        Due.refused("take(MAX)", x, NONE, () -> x.take(MAX));
        says(8, "STATE: it isn't OPEN (THE TAPE stays behind these);");
        x.shut(1);
        Due.refused("take(1)", x, STATE, () -> x.take(1));
        Due.is("the tape stayed", x.take(0), 2);
        Due.is("it", Due.name(x, 2), "c");
    }

    private static void promise8WhenFull() {
        says(8, "behind a FAULT: FULL: 90 were there;");
        ScopeWarden x = things(89);
        Due.is("the 90th", Due.take(x, 0, "z"), 89);
        String before = Due.world(x);
        Due.is("the 91st", Due.take(x, 0, "y"), FULL);
        Due.is("the 91st, with a fault", Due.take(x, 0, "y="), -102);
        Due.is("the 91st, of a held name", Due.take(x, 0, "z"), FULL);
        Due.is("all is as it was", Due.world(x), before);
        says(8, "STATE: its NAME is HELD.");
        ScopeWarden y = scopes(2);
        Due.take(y, 0, "a");
        String one = Due.world(y);
        Due.is("it", Due.take(y, 0, "a"), STATE);
        Due.is("in another scope", Due.take(y, 1, "a"), STATE);
        Due.is("with a fault", Due.take(y, 0, "a="), -102);
        Due.is("all is as it was", Due.world(y), one);
        Due.is("a longer one", Due.take(y, 0, "aa"), 1);
        y.close(0);
        Due.is("when it is closed", Due.take(y, 0, "a"), 2);
    }

    private static void promise9() {
        says(9, "A THING is CLOSED: how many FAULTS.");
        ScopeWarden x = new ScopeWarden();
        Due.take(x, 0, "a");
        Due.take(x, 0, "b=!1");
        Due.take(x, 0, "c=!2");
        Due.take(x, 0, "d=xb;xc;xe");
        Due.is("none", x.close(0), 0);
        Due.is("three", x.close(3), 3);
        Due.is("the log", Due.log(x), "0 1 2 3");
        says(9, "NONE;");
        Due.refused("close(4)", x, NONE, () -> x.close(4));
        Due.refused("close(-1)", x, NONE, () -> x.close(-1));
        Due.refused("close(MIN)", x, NONE, () -> x.close(MIN));
        Due.refused("close(MAX)", x, NONE, () -> x.close(MAX));
        says(9, "STATE: it isn't HELD.");
        Due.refused("close(0)", x, STATE, () -> x.close(0));
        Due.refused("close(1)", x, STATE, () -> x.close(1));
    }

    private static void promise10() {
        says(10, "A SCOPE is SHUT: how many FAULTS.");
        ScopeWarden x = scopes(4);
        Due.take(x, 1, "a=!1");
        Due.take(x, 1, "b=!2");
        Due.is("an empty one", x.shut(2), 0);
        Due.is("one with two", x.shut(1), 2);
        Due.is("the root", x.shut(0), 0);
        Due.is("the root again", x.shut(0), 0);
        says(10, "NONE;");
        Due.refused("shut(4)", x, NONE, () -> x.shut(4));
        Due.refused("shut(-1)", x, NONE, () -> x.shut(-1));
        Due.refused("shut(MIN)", x, NONE, () -> x.shut(MIN));
        Due.refused("shut(MAX)", x, NONE, () -> x.shut(MAX));
        says(10, "STATE: it isn't OPEN.");
        Due.refused("shut(1)", x, STATE, () -> x.shut(1));
        Due.refused("shut(3), which was shut with the root", x, STATE, () -> x.shut(3));
    }

    private static void promise11() {
        says(11, "A THING is MOVED to a SCOPE: how many ENTRIES that has then.");
        ScopeWarden x = scopes(4);
        Due.take(x, 0, "a");
        Due.take(x, 0, "b");
        Due.is("to an empty one", x.move(0, 1), 1);
        Due.is("to one with one", x.move(1, 1), 2);
        Due.is("to the same", x.move(1, 1), 2);
        x.open(2);
        Due.is("scopes count, too", x.move(0, 2), 2);
        Due.is("back to the root", x.move(0, 0), 4);
        x.close(1);
        x.shut(3);
        says(11, "NONE: either;");
        Due.refused("move(2, 0)", x, NONE, () -> x.move(2, 0));
        Due.refused("move(-1, 0)", x, NONE, () -> x.move(-1, 0));
        Due.refused("move(0, 5)", x, NONE, () -> x.move(0, 5));
        Due.refused("move(0, -1)", x, NONE, () -> x.move(0, -1));
        Due.refused("move(MAX, MIN)", x, NONE, () -> x.move(MAX, MIN));
        Due.refused("move(1, 5)", x, NONE, () -> x.move(1, 5));
        Due.refused("move(2, 3)", x, NONE, () -> x.move(2, 3));
        says(11, "STATE: it isn't HELD, or the SCOPE isn't OPEN.");
        Due.refused("move(1, 0)", x, STATE, () -> x.move(1, 0));
        Due.refused("move(0, 3)", x, STATE, () -> x.move(0, 3));
        Due.refused("move(1, 3)", x, STATE, () -> x.move(1, 3));
    }

    private static void promise12() {
        says(12, "v comes to a COUNTER: what it is then.");
        ScopeWarden x = new ScopeWarden();
        Due.is("count(0, 0)", x.count(0, 0), 0);
        Due.is("count(0, 5)", x.count(0, 5), 5);
        Due.is("count(7, MAX)", x.count(7, MAX), MAX);
        Due.is("count(7, 1)", x.count(7, 1), MIN);
        Due.is("count(7, MIN)", x.count(7, MIN), 0);
        Due.is("count(7, MIN)", x.count(7, MIN), MIN);
        Due.is("count(7, -1)", x.count(7, -1), MAX);
        says(12, "NONE (a COUNTER might be this, too).");
        Due.refused("count(8, 1)", x, NONE, () -> x.count(8, 1));
        Due.refused("count(-1, 1)", x, NONE, () -> x.count(-1, 1));
        Due.refused("count(MIN, 1)", x, NONE, () -> x.count(MIN, 1));
        Due.refused("count(MAX, 1)", x, NONE, () -> x.count(MAX, 1));
        Due.is("count(0, -6), this, too", x.count(0, -6), NONE);
        Due.is("counter(0)", x.counter(0), -1);
    }

    private static void promise13() {
        says(13, "A COUNTER.");
        ScopeWarden x = new ScopeWarden();
        Due.is("counter(0)", x.counter(0), 0);
        x.count(7, MIN);
        Due.is("counter(7)", x.counter(7), MIN);
        Due.is("counter(6)", x.counter(6), 0);
        says(13, "NO.");
        Due.is("counter(8)", x.counter(8), ScopeWarden.NO);
        Due.is("counter(-1)", x.counter(-1), ScopeWarden.NO);
        Due.is("counter(MIN)", x.counter(MIN), ScopeWarden.NO);
        Due.is("counter(MAX)", x.counter(MAX), ScopeWarden.NO);
    }

    private static void promise14() {
        says(14, "NONE: scope, what.");
        ScopeWarden x = scopes(2);
        Due.is("scope(2, 0)", x.scope(2, 0), NONE);
        Due.is("scope(-1, 0)", x.scope(-1, 0), NONE);
        Due.is("scope(-5, 1)", x.scope(-5, 1), NONE);
        Due.is("scope(MAX, 0)", x.scope(MAX, 0), NONE);
        Due.is("scope(0, 6)", x.scope(0, 6), NONE);
        Due.is("scope(0, -1)", x.scope(0, -1), NONE);
        Due.is("scope(0, MIN)", x.scope(0, MIN), NONE);
        Due.is("scope(0, MAX)", x.scope(0, MAX), NONE);
    }

    private static void promise14States() {
        says(14, "Of a SCOPE what 0 OPEN (0), SHUT (1; there is no SHUTTING between calls),");
        ScopeWarden x = scopes(3);
        Due.take(x, 1, "a=!1");
        Due.take(x, 2, "b=ac;!2");
        Due.is("scope(1, 0)", x.scope(1, 0), 0);
        x.shut(1);
        Due.is("scope(1, 0) behind a SHUT with a fault", x.scope(1, 0), 1);
        x.shut(0);
        Due.is("scope(0, 0) behind its SHUT", x.scope(0, 0), 0);
        Due.is("scope(2, 0)", x.scope(2, 0), 1);
        says(14, "1 PARENT (-5: the ROOT),");
        Due.is("scope(0, 1)", x.scope(0, 1), -5);
        Due.is("scope(1, 1) of a SHUT one", x.scope(1, 1), 0);
        says(14, "2 how many ENTRIES,");
        Due.is("scope(0, 2) of none", x.scope(0, 2), 0);
        x.open(0);
        Due.take(x, 0, "d");
        Due.take(x, 3, "e");
        Due.is("scope(0, 2)", x.scope(0, 2), 2);
        Due.is("scope(3, 2)", x.scope(3, 2), 1);
        Due.is("scope(1, 2) of a SHUT one", x.scope(1, 2), 0);
        ScopeWarden y = scopes(60);
        for (int n = 0; n < 90; n++) {
            Due.take(y, 0, nameOf(n));
        }
        Due.is("as many as there can be", y.scope(0, 2), 149);
    }

    private static void promise14WithinAndAbove() {
        says(14, "3 how many THINGS are HELD in it and in those below it,");
        ScopeWarden x = new ScopeWarden();
        Due.is("scope(0, 3) of none", x.scope(0, 3), 0);
        x.open(0);
        x.open(1);
        x.open(0);
        Due.take(x, 0, "a");
        Due.take(x, 1, "b");
        Due.take(x, 2, "c");
        Due.take(x, 2, "d");
        int[] held = {4, 3, 2, 0};
        for (int n = 0; n < held.length; n++) {
            Due.is("scope(" + n + ", 3)", x.scope(n, 3), held[n]);
        }
        x.close(2);
        Due.is("scope(1, 3) when one is closed", x.scope(1, 3), 2);
        says(14, "4 how many SCOPES there are above it,");
        int[] above = {0, 1, 2, 1};
        for (int n = 0; n < above.length; n++) {
            Due.is("scope(" + n + ", 4)", x.scope(n, 4), above[n]);
        }
        ScopeWarden y = new ScopeWarden();
        for (int n = 0; n < 59; n++) {
            y.open(n);
        }
        Due.is("as many as there can be", y.scope(59, 4), 59);
        says(14, "5 the TASK whose SCOPE it is (own, or of a ( ; -5: of none).");
        Due.task(x, 1, 0, "(;.;);.;.");
        x.tick();
        int[] task = {-5, -5, -5, -5, 0, 0};
        for (int n = 0; n < task.length; n++) {
            Due.is("scope(" + n + ", 5)", x.scope(n, 5), task[n]);
        }
        Due.is("one in the task's", x.open(5), 6);
        Due.is("scope(6, 5)", x.scope(6, 5), -5);
        x.run(100);
        Due.is("its own, SHUT", x.scope(4, 5), 0);
        Due.is("that of its (, SHUT", x.scope(5, 5), 0);
    }

    private static void promise15() {
        says(15, "Whether a SCOPE is another one, or that is its PARENT, or its PARENT's, and so on: 1, 0.");
        ScopeWarden x = new ScopeWarden();
        for (int n = 0; n < 59; n++) {
            x.open(n < 58 ? n : 0);
        }
        Due.is("the same", x.below(0, 0), 1);
        Due.is("its parent", x.below(1, 0), 1);
        Due.is("its parent's", x.below(2, 0), 1);
        Due.is("far above", x.below(58, 0), 1);
        Due.is("far above", x.below(58, 1), 1);
        Due.is("one below it", x.below(0, 1), 0);
        Due.is("far below it", x.below(1, 58), 0);
        Due.is("one beside it", x.below(59, 1), 0);
        Due.is("one beside it", x.below(58, 59), 0);
        says(15, "NONE: either.");
        Due.is("below(60, 0)", x.below(60, 0), NONE);
        Due.is("below(0, 60)", x.below(0, 60), NONE);
        Due.is("below(60, 60)", x.below(60, 60), NONE);
        Due.is("below(-1, 0)", x.below(-1, 0), NONE);
        Due.is("below(0, -1)", x.below(0, -1), NONE);
        Due.is("below(0, -5)", x.below(0, -5), NONE);
    }

    private static void promise16() {
        says(16, "The greatest number of a THING that is HELD in a SCOPE or in those below it; -5: none is.");
        ScopeWarden x = scopes(3);
        Due.is("of none", x.youngest(0), -5);
        Due.take(x, 1, "a");
        Due.is("the least", x.youngest(1), 0);
        Due.is("below it", x.youngest(0), 0);
        Due.is("beside it", x.youngest(2), -5);
        Due.take(x, 2, "b");
        x.move(0, 1);
        Due.is("the greatest, not the last that came", x.youngest(0), 1);
        x.close(1);
        Due.is("of those that are HELD", x.youngest(0), 0);
        ScopeWarden y = things(90);
        Due.is("the greatest there can be", y.youngest(0), 89);
        says(16, "NONE.");
        Due.is("youngest(3)", x.youngest(3), NONE);
        Due.is("youngest(-1)", x.youngest(-1), NONE);
        Due.is("youngest(MAX)", x.youngest(MAX), NONE);
    }

    private static void promise17() {
        says(17, "The i-th ENTRY of a SCOPE: a THING's number, or 100 and a SCOPE's.");
        ScopeWarden x = new ScopeWarden();
        Due.take(x, 0, "a");
        x.open(0);
        Due.take(x, 0, "b");
        Due.is("entry(0, 0)", x.entry(0, 0), 0);
        Due.is("entry(0, 1)", x.entry(0, 1), 101);
        Due.is("entry(0, 2)", x.entry(0, 2), 1);
        says(17, "NONE: scope, i.");
        Due.is("one behind the last", x.entry(0, 3), NONE);
        Due.is("one ahead of the first", x.entry(0, -1), NONE);
        Due.is("entry(0, MIN)", x.entry(0, MIN), NONE);
        Due.is("entry(0, MAX)", x.entry(0, MAX), NONE);
        Due.is("of an empty one", x.entry(1, 0), NONE);
        Due.is("entry(2, 0)", x.entry(2, 0), NONE);
        Due.is("entry(-1, 0)", x.entry(-1, 0), NONE);
        ScopeWarden y = scopes(60);
        for (int n = 0; n < 90; n++) {
            Due.take(y, 0, nameOf(n));
        }
        Due.is("the last of as many as there can be", y.entry(0, 148), 89);
        Due.is("one behind it", y.entry(0, 149), NONE);
        Due.is("the last scope", y.entry(0, 58), 159);
    }

    private static void promise18() {
        says(18, "Of a THING what 0 HELD (0), CLOSED (1),");
        ScopeWarden x = scopes(3);
        Due.take(x, 1, "a");
        Due.take(x, 1, "b=?0<1:ac{.;.;.};ad{.};.");
        Due.is("thing(0, 0)", x.thing(0, 0), 0);
        x.close(0);
        Due.is("thing(0, 0) then", x.thing(0, 0), 1);
        says(18, "1 its owner (the last one, too),");
        Due.is("thing(1, 1)", x.thing(1, 1), 1);
        x.move(1, 2);
        Due.is("thing(1, 1) then", x.thing(1, 1), 2);
        Due.is("the last one", x.thing(0, 1), 1);
        x.shut(1);
        Due.is("the last one, SHUT", x.thing(0, 1), 1);
        says(18, "2 its place in THE LOG (-5: not CLOSED),");
        Due.is("thing(0, 2)", x.thing(0, 2), 0);
        Due.is("thing(1, 2)", x.thing(1, 2), -5);
        x.close(1);
        Due.is("thing(1, 2) then", x.thing(1, 2), 1);
        says(18, "3 how many STEPS its CLOSER has (those within a {..} don't count).");
        Due.is("of none", x.thing(0, 3), 0);
        Due.is("of three", x.thing(1, 3), 3);
        Due.is("of those within", x.thing(2, 3), 3);
        Due.is("of the other", x.thing(3, 3), 1);
        says(18, "NONE: thing, what.");
        Due.is("thing(4, 0)", x.thing(4, 0), NONE);
        Due.is("thing(-1, 0)", x.thing(-1, 0), NONE);
        Due.is("thing(MAX, 0)", x.thing(MAX, 0), NONE);
        Due.is("thing(0, 4)", x.thing(0, 4), NONE);
        Due.is("thing(0, -1)", x.thing(0, -1), NONE);
        Due.is("thing(0, MIN)", x.thing(0, MIN), NONE);
    }

    private static void promise19() {
        says(19, "Letter i of a THING's NAME; i -1: how many.");
        ScopeWarden x = new ScopeWarden();
        Due.take(x, 0, "z");
        Due.take(x, 0, "abcxyzq");
        Due.is("name(0, -1)", x.name(0, -1), 1);
        Due.is("name(0, 0)", x.name(0, 0), 'z');
        Due.is("name(1, -1)", x.name(1, -1), 7);
        Due.is("all letters", Due.name(x, 1), "abcxyzq");
        Due.is("the last", x.name(1, 6), 'q');
        says(19, "NONE: thing, i.");
        Due.is("one behind the last", x.name(1, 7), NONE);
        Due.is("one behind the only one", x.name(0, 1), NONE);
        Due.is("name(0, -2)", x.name(0, -2), NONE);
        Due.is("name(0, MIN)", x.name(0, MIN), NONE);
        Due.is("name(1, MAX)", x.name(1, MAX), NONE);
        Due.is("name(2, -1)", x.name(2, -1), NONE);
        Due.is("name(-1, -1)", x.name(-1, -1), NONE);
        Due.is("name(-1, 0)", x.name(-1, 0), NONE);
    }

    private static void promise20() {
        says(20, "THE TAPE's bytes are a NAME: the THING that is HELD with it; -5.");
        ScopeWarden x = new ScopeWarden();
        Due.is("of none", Due.find(x, "a"), -5);
        Due.take(x, 0, "a");
        Due.take(x, 0, "abcdefg");
        Due.is("1 letter", Due.find(x, "a"), 0);
        Due.is("7 letters", Due.find(x, "abcdefg"), 1);
        Due.is("8 letters", Due.find(x, "abcdefgh"), -5);
        Due.is("one less", Due.find(x, "abcdef"), -5);
        Due.is("no letter", Due.find(x, ""), -5);
        Due.is("no NAME", Due.find(x, "a="), -5);
        Due.is("no NAME", Due.find(x, "A"), -5);
        Due.is("no NAME", Due.find(x, "a\u0001"), -5);
        x.close(0);
        Due.is("one that is CLOSED", Due.find(x, "a"), -5);
        Due.take(x, 0, "a");
        Due.is("the one that is HELD", Due.find(x, "a"), 2);
    }

    private static void promise21() {
        says(21, "The THING that is HELD with the least NAME (as words stand in a book: a byte that is less ahead, a "
                + "shorter one ahead of one that it begins) that isn't less than THE TAPE's bytes; -5.");
        ScopeWarden x = new ScopeWarden();
        Due.is("of none", Due.from(x, "a"), -5);
        Due.take(x, 0, "b");
        Due.take(x, 0, "ba");
        Due.take(x, 0, "abcdefg");
        Due.take(x, 0, "bb");
        Due.is("the same", Due.from(x, "b"), 0);
        Due.is("one that it begins", Due.from(x, "abcdef"), 2);
        Due.is("the same of 7 letters", Due.from(x, "abcdefg"), 2);
        Due.is("one letter more", Due.from(x, "abcdefga"), 0);
        Due.is("one byte more, the least", Due.from(x, "abcdefg\u0001"), 0);
        Due.is("a shorter one ahead", Due.from(x, "ab"), 2);
        Due.is("behind a shorter one", Due.from(x, "b\u0001"), 1);
        Due.is("behind all with a", Due.from(x, "az"), 0);
        Due.is("between", Due.from(x, "baa"), 3);
        Due.is("the greatest", Due.from(x, "bb"), 3);
        Due.is("above the greatest", Due.from(x, "bba"), -5);
        Due.is("the byte below a", Due.from(x, "`"), 2);
        Due.is("the byte above z", Due.from(x, "{"), -5);
        Due.is("the least byte", Due.from(x, "\u0001"), 2);
        Due.is("the greatest byte", Due.from(x, "\u007f"), -5);
        Due.is("a great letter", Due.from(x, "Z"), 2);
        Due.is("bytes that are no NAME", Due.from(x, "b="), 1);
        x.close(1);
        Due.is("of those that are HELD", Due.from(x, "b="), 3);
    }

    private static void promise22() {
        says(22, "A THING that is HELD has another NAME, which is THE TAPE: how many letters.");
        ScopeWarden x = new ScopeWarden();
        Due.take(x, 0, "a=!1");
        Due.take(x, 0, "b");
        Due.take(x, 0, "c");
        Due.is("1 letter", Due.rename(x, 0, "z"), 1);
        Due.is("7 letters", Due.rename(x, 0, "abcdefg"), 7);
        Due.is("its name", Due.name(x, 0), "abcdefg");
        Due.is("its closer stays", Due.closer(x, 0), "!1");
        x.close(2);
        Due.put(x, "!");
        says(22, "NONE;");
        Due.refused("rename(3)", x, NONE, () -> x.rename(3));
        Due.refused("rename(-1)", x, NONE, () -> x.rename(-1));
        Due.refused("rename(MAX)", x, NONE, () -> x.rename(MAX));
        says(22, "STATE: it isn't HELD (THE TAPE stays behind these);");
        Due.refused("rename(2)", x, STATE, () -> x.rename(2));
        Due.is("told(8)", x.told(8), 1);
        says(22, "-100 less the FAULT;");
        Due.is("no NAME", x.rename(0), -100);
        Due.is("told(8)", x.told(8), 0);
        Due.is("no letter", x.rename(0), -100);
        Due.is("8 letters", Due.rename(x, 0, "abcdefgh"), -107);
        Due.is("a closer", Due.rename(x, 0, "b=!1"), -101);
        says(22, "STATE: one that is HELD has it (itself, too).");
        Due.is("another one's", Due.rename(x, 0, "b"), STATE);
        Due.is("its own", Due.rename(x, 0, "abcdefg"), STATE);
        Due.is("its name", Due.name(x, 0), "abcdefg");
        Due.is("one of a CLOSED one", Due.rename(x, 0, "c"), 1);
        Due.is("one that it had", Due.rename(x, 0, "a"), 1);
    }

    private static void promise23() {
        says(23, "The i-th of the THINGS that are HELD, by their NAMES (as words stand in a book).");
        ScopeWarden x = new ScopeWarden();
        Due.is("of none", x.byName(0), NONE);
        Due.take(x, 0, "zz");
        Due.take(x, 0, "b");
        Due.take(x, 0, "z");
        Due.take(x, 0, "abcdefg");
        Due.take(x, 0, "abcdef");
        int[] due = {4, 3, 1, 2, 0};
        for (int i = 0; i < due.length; i++) {
            Due.is("byName(" + i + ")", x.byName(i), due[i]);
        }
        says(23, "NONE.");
        Due.is("one behind the last", x.byName(5), NONE);
        Due.is("one ahead of the first", x.byName(-1), NONE);
        Due.is("byName(MIN)", x.byName(MIN), NONE);
        Due.is("byName(MAX)", x.byName(MAX), NONE);
        x.close(4);
        Due.is("of those that are HELD", x.byName(0), 3);
        Due.is("of those that are HELD", x.byName(4), NONE);
        ScopeWarden y = things(90);
        Due.is("the last of as many as there can be", y.byName(89), 89);
        Due.is("one behind it", y.byName(90), NONE);
    }

    private static void promise24() {
        says(24, "The i-th of PLAN of a SCOPE; i -1: how many.");
        ScopeWarden x = scopes(3);
        Due.take(x, 1, "a");
        Due.take(x, 1, "b");
        Due.is("plan(1, -1)", x.plan(1, -1), 2);
        Due.is("plan(1, 0)", x.plan(1, 0), 1);
        Due.is("plan(1, 1)", x.plan(1, 1), 0);
        Due.is("plan(2, -1)", x.plan(2, -1), 0);
        says(24, "NONE: scope, i.");
        Due.is("one behind the last", x.plan(1, 2), NONE);
        Due.is("of none", x.plan(2, 0), NONE);
        Due.is("plan(1, -2)", x.plan(1, -2), NONE);
        Due.is("plan(1, MIN)", x.plan(1, MIN), NONE);
        Due.is("plan(1, MAX)", x.plan(1, MAX), NONE);
        Due.is("plan(3, -1)", x.plan(3, -1), NONE);
        Due.is("plan(-1, -1)", x.plan(-1, -1), NONE);
        x.shut(1);
        Due.is("of a SHUT one", x.plan(1, -1), 0);
        Due.is("of a SHUT one", x.plan(1, 0), NONE);
    }

    private static void would(ScopeWarden x, int scope, int... due) {
        for (int what = 0; what < due.length; what++) {
            Due.is("would(" + scope + ", " + what + ")", x.would(scope, what), due[what]);
        }
    }

    private static void promise25() {
        says(25, "In thought, were a SCOPE SHUT: what 0 how many FAULTS that gathers, 1 the first (0: none), 2 the THING "
                + "of that (-1),");
        ScopeWarden x = scopes(3);
        Due.take(x, 1, "a=!1");
        Due.take(x, 1, "b=+0=5;!2");
        Due.take(x, 2, "c");
        x.row(0, 1);
        Due.put(x, "q");
        x.image();
        String before = Due.all(x);
        would(x, 1, 2, 2, 1);
        would(x, 2, 0, 0, -1);
        would(x, 0, 2, 2, 1);
        Due.is("nothing is left of it", Due.all(x), before);
        x.undo();
        Due.is("nor in the image", Due.all(x), before);
        says(25, "NONE: scope, what;");
        Due.refused("would(3, 0)", x, NONE, () -> x.would(3, 0));
        Due.refused("would(-1, 0)", x, NONE, () -> x.would(-1, 0));
        Due.refused("would(0, 6)", x, NONE, () -> x.would(0, 6));
        Due.refused("would(0, -1)", x, NONE, () -> x.would(0, -1));
        says(25, "STATE: it isn't OPEN.");
        x.shut(1);
        for (int what = 0; what <= 5; what++) {
            int asked = what;
            Due.refused("would(1, " + what + ")", x, STATE, () -> x.would(1, asked));
        }
        Due.refused("would(1, 6)", x, NONE, () -> x.would(1, 6));
    }

    private static void promise25TakenAndHeld() {
        says(25, "3 how many THINGS would be CLOSED, 4 TAKEN, 5 how many would be HELD in all.");
        ScopeWarden x = scopes(4);
        Due.take(x, 1, "a=ac;ad");
        Due.take(x, 2, "b=xa");
        Due.take(x, 3, "e");
        x.open(1);
        Due.take(x, 4, "f");
        // the SHUT of 2 closes b and a, by which c and d come to 1, where f is held; e is held in 3
        would(x, 2, 0, 0, -1, 2, 2, 4);
        would(x, 3, 0, 0, -1, 1, 0, 3);
        would(x, 4, 0, 0, -1, 1, 0, 3);
        x.shut(3);
        Due.is("what was closed ahead of it doesn't count", x.would(2, 3), 2);
        Due.is("what was taken ahead of it doesn't count", x.would(2, 4), 2);
        x.open(0);
        would(x, 5, 0, 0, -1, 0, 0, 3);
        ScopeWarden y = things(89);
        y.open(0);
        Due.take(y, 1, "q=xtaa");
        would(y, 1, 0, 0, -1, 2, 0, 88);
        would(y, 0, 0, 0, -1, 90, 0, 0);
    }

    private static void trial(ScopeWarden x, int task, int n, int... due) {
        for (int what = 0; what < due.length; what++) {
            Due.is("trial(" + task + ", " + n + ", " + what + ")", x.trial(task, n, what), due[what]);
        }
    }

    private static void promise26() {
        says(26, "of a TASK what 0 how many FAULTS, 1 the first (0: none), 2 the THING of that (-1), 3 as of(.., 0), 4 how "
                + "many TURNS it had, 5 how many numbers THE LOG has.");
        ScopeWarden x = new ScopeWarden();
        Due.take(x, 0, "z");
        x.close(0);
        Due.task(x, 0, 0, ".;aa{!1};xa;.;!7");
        Due.task(x, 0, -1, ".;aa;.;k1;.");
        Due.task(x, 0, -2, "+0=1");
        x.row(0, 1);
        x.image();
        String before = Due.all(x);
        trial(x, 0, 0, 0, 0, -1, 0, 0, 1);
        trial(x, 0, 1, 0, 0, -1, 0, 1, 1);
        trial(x, 0, 2, 1, 1, 1, 0, 2, 2);
        trial(x, 0, 3, 2, 7, -1, 2, 3, 2);
        trial(x, 1, 6, 0, 0, -1, 1, 3, 3);
        trial(x, 2, 7, 0, 0, -1, 1, 1, 3);
        Due.is("nothing is left of it", Due.all(x), before);
        x.undo();
        Due.is("nor in the image", Due.all(x), before);
        x.tick();
        trial(x, 0, 0, 0, 0, -1, 0, 1, 1);
        trial(x, 0, 1, 1, 1, 1, 0, 2, 2);
        says(26, "NONE: task, what;");
        Due.refused("trial(3, 0, 0)", x, NONE, () -> x.trial(3, 0, 0));
        Due.refused("trial(-1, 0, 0)", x, NONE, () -> x.trial(-1, 0, 0));
        Due.refused("trial(0, 0, 6)", x, NONE, () -> x.trial(0, 0, 6));
        Due.refused("trial(0, 0, -1)", x, NONE, () -> x.trial(0, 0, -1));
    }

    private static void promise26Ticks() {
        says(26, "In thought, behind n TICKS (0 .. 100; fewer, when none is READY):");
        ScopeWarden x = new ScopeWarden();
        StringBuilder points = new StringBuilder(".");
        for (int i = 1; i < 60; i++) {
            points.append(";.");
        }
        Due.task(x, 0, 0, points.toString());
        Due.task(x, 0, 1, points.toString());
        trial(x, 0, 100, 0, 0, -1, 0, 40);
        trial(x, 0, 99, 0, 0, -1, 0, 39);
        trial(x, 1, 100, 0, 0, -1, 1, 60);
        x.run(100);
        trial(x, 0, 19, 0, 0, -1, 0, 59);
        trial(x, 0, 20, 0, 0, -1, 1, 60);
        trial(x, 0, 100, 0, 0, -1, 1, 60);
        says(26, "BAD.");
        Due.refused("one above the greatest", x, BAD, () -> x.trial(0, 101, 0));
        Due.refused("one below the least", x, BAD, () -> x.trial(0, -1, 0));
        Due.refused("trial(0, MAX, 0)", x, BAD, () -> x.trial(0, MAX, 0));
        Due.refused("trial(0, MIN, 5)", x, BAD, () -> x.trial(0, MIN, 5));
    }

    /** One with scopes in one another, closers that do all, and tasks in their midst; faults were gathered. */
    private static ScopeWarden rich() {
        ScopeWarden x = scopes(3);
        x.open(1);
        Due.take(x, 1, "a=!1;.");
        Due.take(x, 3, "b=xa;ac;!2");
        Due.take(x, 2, "d=ma>3;k1");
        Due.take(x, 0, "e=!5");
        x.close(3);
        Due.task(x, 3, 0, "(;af{!6};.;(;ag{!8};.;xf;);+0=1;.;);!7");
        Due.task(x, 0, 0, ".;.;k0;.;ah;.");
        Due.task(x, 2, 0, "+0=1;.;?0<9:ma>0;.;xd;.;+0=1");
        Due.task(x, 1, -1, "ai{!9;.};xi;.;.");
        Due.task(x, 0, -1, "+0=1;.;.");
        x.cancel(4);
        x.run(4);
        x.rank(3, 1);
        x.run(1);
        x.rank(3, -2);
        return x;
    }

    private static int first(ScopeWarden x, int task, int what, int none) {
        return x.faults(task) > 0 ? x.fault(task, 0, what) : none;
    }

    private static void thoughtsAreAsDeeds() {
        ScopeWarden x = rich();
        says(26, "In thought, behind n TICKS");
        for (int n = 0; n <= 10; n += 2) {
            ScopeWarden y = rich();
            y.run(n);
            for (int t = 0; t < 5; t++) {
                trial(x, t, n, y.faults(t), first(y, t, 0, 0), first(y, t, 1, -1), y.of(t, 0), y.of(t, 2), y.told(7));
            }
        }
        says(25, "In thought, were a SCOPE SHUT:");
        for (int s = 0; s < x.told(0); s++) {
            ScopeWarden y = rich();
            int closed = -y.told(7);
            int taken = -y.told(2);
            int many = y.shut(s);
            if (many < 0) {
                would(x, s, STATE, STATE, STATE, STATE, STATE, STATE);
            } else {
                would(x, s, many, first(y, -1, 0, 0), first(y, -1, 1, -1), closed + y.told(7), taken + y.told(2), y.told(3));
            }
        }
        says(26, "In thought, behind n TICKS");
        ScopeWarden y = rich();
        for (int n = 0; n <= 4; n++) {
            trial(x, 2, n, y.faults(2), first(y, 2, 0, 0), first(y, 2, 1, -1), y.of(2, 0), y.of(2, 2), y.told(7));
            y.tick();
        }
    }

    private static void promise27() {
        says(27, "Number i of THE LOG.");
        ScopeWarden x = things(90);
        Due.is("of an empty one", x.log(0), NONE);
        x.close(3);
        Due.is("the first", x.log(0), 3);
        Due.is("one behind it", x.log(1), NONE);
        x.shut(0);
        Due.is("the next", x.log(1), 89);
        Due.is("the last of as many as there can be", x.log(89), 0);
        says(27, "NONE.");
        Due.is("one behind it", x.log(90), NONE);
        Due.is("one ahead of the first", x.log(-1), NONE);
        Due.is("log(MIN)", x.log(MIN), NONE);
        Due.is("log(MAX)", x.log(MAX), NONE);
    }

    private static void promise28() {
        says(28, "Of the i-th of the FAULTS of the latest such call (task -1), or of a TASK (0: the first) what 0 the "
                + "FAULT, 1 the THING (-1: none).");
        ScopeWarden x = new ScopeWarden();
        Due.is("of no call", x.fault(-1, 0, 0), NONE);
        Due.take(x, 0, "a=!1");
        Due.take(x, 0, "b=!2");
        Due.take(x, 0, "c=xa;!3");
        Due.task(x, 0, 0, "xb;!4");
        x.close(2);
        x.tick();
        int[][] due = {{-1, 0, 1, 0}, {-1, 1, 3, 2}, {0, 0, 4, -1}, {0, 1, 2, 1}};
        for (int[] row : due) {
            Due.is("fault(" + row[0] + ", " + row[1] + ", 0)", x.fault(row[0], row[1], 0), row[2]);
            Due.is("fault(" + row[0] + ", " + row[1] + ", 1)", x.fault(row[0], row[1], 1), row[3]);
        }
        says(28, "NONE: task, i, what.");
        int[][] none = {{1, 0, 0}, {-2, 0, 0}, {10, 0, 0}, {MIN, 0, 0}, {MAX, 0, 0}, {-1, 2, 0}, {-1, -1, 0}, {-1, MAX, 1},
            {0, 2, 1}, {0, -1, 1}, {0, MIN, 0}, {-1, 0, 2}, {-1, 0, -1}, {0, 0, 2}, {0, 0, -1}, {0, 0, MAX}};
        for (int[] row : none) {
            Due.is("fault(" + row[0] + ", " + row[1] + ", " + row[2] + ")", x.fault(row[0], row[1], row[2]), NONE);
        }
    }

    private static void promise29() {
        says(29, "How many FAULTS those are.");
        ScopeWarden x = new ScopeWarden();
        Due.is("of no call", x.faults(-1), 0);
        Due.take(x, 0, "a=!1");
        Due.take(x, 0, "b=!2;.");
        Due.take(x, 0, "c=xb;xq");
        x.close(2);
        Due.is("of a call", x.faults(-1), 2);
        says(29, "NONE: task (-1 .. 9, as there are).");
        for (int t = 0; t <= 9; t++) {
            Due.is("one above the greatest that is there", x.faults(t), NONE);
            Due.task(x, 0, 0, t == 0 ? "xa;!3" : ".");
            Due.is("of one that had no turn", x.faults(t), 0);
        }
        x.tick();
        Due.is("of a task", x.faults(0), 2);
        Due.is("faults(9)", x.faults(9), 0);
        Due.is("faults(10)", x.faults(10), NONE);
        Due.is("faults(-2)", x.faults(-2), NONE);
        Due.is("faults(MIN)", x.faults(MIN), NONE);
        Due.is("faults(MAX)", x.faults(MAX), NONE);
    }
}
