/** Promises 7 to 25, 27 to 29 and 37: scopes and things, what is asked of them, and what would be. */
public final class ScopesTest {
    private static final int NONE = ScopeWarden.NONE, STATE = ScopeWarden.STATE, FULL = ScopeWarden.FULL;

    public static void main(String[] args) {
        promise7Open();
        promise8Take();
        promise8TakeWhenFull();
        promise9Close();
        promise9CloseByClosers();
        promise9FaultsOfClosers();
        promise10Shut();
        promise10ShutWhileClosersMove();
        promise11Move();
        promise12And13Counters();
        promise14Scope();
        promise15Below();
        promise16Youngest();
        promise17Entry();
        promise18Thing();
        promise19Name();
        promise20Find();
        promise21From();
        promise22Rename();
        promise23ByName();
        promise24Plan();
        promise25Would();
        promise27Log();
        promise28And29Faults();
        promise37Told();
        deepest();
        Due.end();
    }

    private static void promise7Open() {
        ScopeWarden x = new ScopeWarden();
        Due.is("open(0)", x.open(0), 1);
        Due.is("open(1)", x.open(1), 2);
        Due.is("open(0)", x.open(0), 3);
        Due.is("entries", Due.entries(x, 0), "101 103");
        Due.is("parent", x.scope(2, 1), 1);
        Due.refused("open(-1)", x, NONE, () -> x.open(-1));
        Due.refused("open(4)", x, NONE, () -> x.open(4));
        x.shut(1);
        Due.refused("open in a shut one", x, STATE, () -> x.open(1));
        Due.refused("open in one that was shut with its parent", x, STATE, () -> x.open(2));
        for (int i = 4; i < 60; i++) {
            Due.is("open", x.open(0), i);
        }
        Due.refused("the 61st scope", x, FULL, () -> x.open(0));
        Due.refused("the 61st scope, in a shut one", x, STATE, () -> x.open(1));
        Due.refused("the 61st scope, in none", x, NONE, () -> x.open(60));
    }

    private static void promise8Take() {
        ScopeWarden x = new ScopeWarden();
        x.open(0);
        Due.is("take(1)", Due.take(x, 1, "b=+0=1"), 0);
        Due.is("take(0)", Due.take(x, 0, "a"), 1);
        Due.is("take(1) again", Due.take(x, 1, "c"), 2);
        Due.is("entries of 1", Due.entries(x, 1), "0 2");
        Due.is("entries of 0", Due.entries(x, 0), "101 1");
        Due.is("held", x.thing(0, 0), 0);
        Due.put(x, "c");
        Due.refused("take(-1)", x, NONE, () -> x.take(-1));
        Due.refused("take(2)", x, NONE, () -> x.take(2));
        x.shut(1);
        Due.refused("take into a shut one", x, STATE, () -> x.take(1));
        Due.put(x, "?");
        Due.refused("take of a fault into a shut one", x, STATE, () -> x.take(1));
        String before = Due.world(x);
        Due.is("take of a held name, with a fault", Due.take(x, 0, "a=!0"), -103);
        Due.is("take of a held name", Due.take(x, 0, "a=!1"), STATE);
        Due.is("they changed nothing", Due.world(x), before);
        Due.is("take of a name that was held", Due.take(x, 0, "b"), 3);
    }

    private static ScopeWarden full() {
        ScopeWarden x = new ScopeWarden();
        for (int i = 0; i < 90; i++) {
            Due.is("take", Due.take(x, 0, "t" + (char) ('a' + i / 26) + (char) ('a' + i % 26)), i);
        }
        return x;
    }

    private static void promise8TakeWhenFull() {
        ScopeWarden x = full();
        String before = Due.world(x);
        Due.is("the 91st", Due.take(x, 0, "z"), FULL);
        Due.is("the tape then", x.told(8), 0);
        Due.is("the 91st, of a held name", Due.take(x, 0, "taa"), FULL);
        Due.is("the 91st, of a fault", Due.take(x, 0, "z="), -102);
        Due.is("they changed nothing", Due.world(x), before);
        x.close(0);
        Due.is("the 91st when one is closed", Due.take(x, 0, "z"), FULL);
        ScopeWarden y = new ScopeWarden();
        for (int i = 0; i < 89; i++) {
            Due.take(y, 0, "t" + (char) ('a' + i / 26) + (char) ('a' + i % 26));
        }
        Due.take(y, 0, "z=+0=1;aq;+0=1");
        Due.is("close of one that takes the 91st", y.close(89), 1);
        Due.is("its fault", Due.faults(y, -1), "103:89");
        Due.is("its steps", y.counter(0), 1);
        ScopeWarden z = full();
        Due.task(z, 0, 0, "ataa");
        z.tick();
        Due.is("a held name is looked at ahead of 90 things", Due.faults(z, 0), "102:-1");
    }

    private static void promise9Close() {
        ScopeWarden x = new ScopeWarden();
        x.open(0);
        Due.take(x, 1, "a=+0=3;+1=-4");
        Due.take(x, 1, "b");
        Due.take(x, 1, "c=+0=1;!7;+0=1");
        Due.is("close(0)", x.close(0), 0);
        Due.is("counter 0", x.counter(0), 3);
        Due.is("counter 1", x.counter(1), -4);
        Due.is("state", x.thing(0, 0), 1);
        Due.is("entries", Due.entries(x, 1), "1 2");
        Due.is("log", Due.log(x), "0");
        Due.refused("close(0) again", x, STATE, () -> x.close(0));
        Due.refused("close(-1)", x, NONE, () -> x.close(-1));
        Due.refused("close(3)", x, NONE, () -> x.close(3));
        Due.is("close(2)", x.close(2), 1);
        Due.is("it ends the closer", x.counter(0), 4);
        Due.is("its fault", Due.faults(x, -1), "7:2");
        Due.refused("close(0) leaves the faults", x, STATE, () -> x.close(0));
        Due.is("close(1)", x.close(1), 0);
        Due.is("faults then", x.faults(-1), 0);
        Due.is("log", Due.log(x), "0 2 1");
    }

    private static void promise9CloseByClosers() {
        ScopeWarden x = new ScopeWarden();
        x.open(0);
        Due.take(x, 0, "a=xb;+0=1;xb");
        Due.take(x, 1, "b=an;xc;mn>0;+1=1;!5");
        Due.take(x, 0, "c=xa;+2=1");
        // a closes b; b's closer takes n into scope 1 (b's), closes c, whose closer doesn't find a
        Due.is("close(0)", x.close(0), 3);
        Due.is("faults, as they happen", Due.faults(x, -1), "104:2 5:1 104:0");
        Due.is("log", Due.log(x), "2 1 0");
        Due.is("counters", x.counter(0) * 100 + x.counter(1) * 10 + x.counter(2), 110);
        Due.is("n was taken into the owner of b, and moved", x.thing(3, 1), 0);
        Due.is("n is held", Due.find(x, "n"), 3);
        ScopeWarden y = new ScopeWarden();
        Due.take(y, 0, "a=aa{+3=1;!2};aa");
        Due.is("its own name is not held while it is closing", y.close(0), 1);
        Due.is("but one of it is then", Due.faults(y, -1), "102:0");
        Due.is("find", Due.find(y, "a"), 1);
        Due.is("its closer", Due.closer(y, 1), "+3=1;!2");
        Due.is("close(1)", y.close(1), 1);
        Due.is("its fault", Due.faults(y, -1), "2:1");
        Due.is("its counter", y.counter(3), 1);
    }

    private static void promise9FaultsOfClosers() {
        String[] closers = {"!1", "!99", "ab", "xz", "mz>0", "mz>9", "mb>9", "mb>1", "k0", "?0<1:!6", "?0<0:!6",
            "?0<1:xz", ".", "xb", "mb>0", "+0=1", "?0<-5:k0"};
        String[] faults = {"1:1", "99:1", "102:1", "104:1", "104:1", "104:1", "105:1", "105:1", "106:1", "6:1", "",
            "104:1", "", "", "", "", ""};
        for (int i = 0; i < closers.length; i++) {
            ScopeWarden x = new ScopeWarden();
            x.open(0);
            x.shut(1);
            Due.take(x, 0, "b");
            Due.take(x, 0, "a=" + closers[i] + ";+7=1");
            Due.is("close of a=" + closers[i], x.close(1), faults[i].isEmpty() ? 0 : 1);
            Due.is("faults of " + closers[i], Due.faults(x, -1), faults[i]);
            Due.is("what stands behind " + closers[i], x.counter(7), faults[i].isEmpty() ? 1 : 0);
        }
        ScopeWarden x = new ScopeWarden();
        Due.take(x, 0, "a=+0=1;?0<2:+1=1;?0<1:+2=1;?1<2:aq{+0=9}");
        x.close(0);
        Due.is("behind a ? that holds", x.counter(1), 1);
        Due.is("behind a ? that doesn't", x.counter(2), 0);
        Due.is("a taken behind a ?", Due.find(x, "q"), 1);
        ScopeWarden y = new ScopeWarden();
        Due.take(y, 0, "a=aq");
        y.shut(0);
        Due.is("taken into a scope that is shutting", Due.faults(y, -1), "101:0");
        ScopeWarden z = new ScopeWarden();
        Due.take(z, 0, "q");
        Due.take(z, 0, "a=aq");
        z.shut(0);
        Due.is("101 is looked at ahead of 102", Due.faults(z, -1), "101:1");
    }

    private static void promise10Shut() {
        ScopeWarden x = new ScopeWarden();
        x.open(0);
        x.open(1);
        Due.take(x, 1, "a=!1");
        Due.take(x, 2, "b=!2");
        Due.take(x, 2, "c=!3");
        Due.take(x, 1, "d=!4");
        Due.take(x, 0, "e=!5");
        Due.refused("shut(-1)", x, NONE, () -> x.shut(-1));
        Due.refused("shut(3)", x, NONE, () -> x.shut(3));
        Due.is("shut(1)", x.shut(1), 4);
        Due.is("log", Due.log(x), "3 0 2 1");
        Due.is("faults", Due.faults(x, -1), "4:3 1:0 3:2 2:1");
        Due.is("scope(1, 0)", x.scope(1, 0), 1);
        Due.is("scope(2, 0)", x.scope(2, 0), 1);
        Due.is("entries of the root", Due.entries(x, 0), "4");
        Due.refused("shut(1) again", x, STATE, () -> x.shut(1));
        Due.refused("shut(2)", x, STATE, () -> x.shut(2));
        x.open(0);
        Due.is("shut(0)", x.shut(0), 1);
        Due.is("the root is open again", x.scope(0, 0), 0);
        Due.is("the one in it is shut", x.scope(3, 0), 1);
        Due.is("entries of the root", Due.entries(x, 0), "");
        Due.is("shut(0) again", x.shut(0), 0);
        Due.is("faults then", x.faults(-1), 0);
        Due.is("take then", Due.take(x, 0, "e"), 5);
        Due.is("open then", x.open(0), 4);
    }

    private static void promise10ShutWhileClosersMove() {
        ScopeWarden x = new ScopeWarden();
        x.open(0);
        x.open(0);
        Due.take(x, 2, "a=!1");
        Due.take(x, 2, "b=!2");
        Due.take(x, 2, "c=ma>1;mb>2");
        // c moves a to scope 1, but scope 2 isn't open any more
        Due.is("shut(2)", x.shut(2), 2);
        Due.is("faults", Due.faults(x, -1), "105:2 2:1");
        Due.is("log", Due.log(x), "2 1");
        Due.is("a is held in 1", x.thing(0, 1), 1);
        ScopeWarden y = new ScopeWarden();
        y.open(0);
        Due.take(y, 0, "a");
        Due.take(y, 1, "b=ac");
        Due.take(y, 0, "d=ma>1;xb;mc>1");
        // of the root d is last: it moves a behind b in 1, closes b, which takes c into 1, still open
        Due.is("shut(0)", y.shut(0), 0);
        Due.is("log", Due.log(y), "1 2 3 0");
        Due.is("owner of a", y.thing(0, 1), 1);
        Due.is("owner of c", y.thing(3, 1), 1);
        ScopeWarden z = new ScopeWarden();
        z.open(0);
        Due.take(z, 0, "a");
        Due.take(z, 1, "b=ma>0");
        z.open(0);
        Due.is("shut(1)", z.shut(1), 0);
        Due.is("a came behind scope 2", Due.entries(z, 0), "102 0");
        Due.is("shut(0)", z.shut(0), 0);
        Due.take(z, 0, "c=xd");
        Due.take(z, 0, "d=!9");
        Due.take(z, 0, "e=md>0");
        Due.is("a move into the root while it is shutting", z.shut(0), 3);
        Due.is("faults", Due.faults(z, -1), "105:4 9:3 104:2");
    }

    private static void promise11Move() {
        ScopeWarden x = new ScopeWarden();
        x.open(0);
        Due.take(x, 0, "a");
        Due.take(x, 0, "b");
        Due.take(x, 1, "c");
        Due.is("move(0, 1)", x.move(0, 1), 2);
        Due.is("entries of 1", Due.entries(x, 1), "2 0");
        Due.is("entries of 0", Due.entries(x, 0), "101 1");
        Due.is("move(2, 1), into its own", x.move(2, 1), 2);
        Due.is("entries of 1", Due.entries(x, 1), "0 2");
        Due.is("owner", x.thing(0, 1), 1);
        Due.is("move(1, 0), behind", x.move(1, 0), 2);
        Due.refused("move(-1, 0)", x, NONE, () -> x.move(-1, 0));
        Due.refused("move(3, 0)", x, NONE, () -> x.move(3, 0));
        Due.refused("move(0, -1)", x, NONE, () -> x.move(0, -1));
        Due.refused("move(0, 2)", x, NONE, () -> x.move(0, 2));
        x.close(2);
        Due.refused("move of a closed one", x, STATE, () -> x.move(2, 0));
        Due.refused("move of a closed one to none", x, NONE, () -> x.move(2, 2));
        x.open(0);
        x.shut(2);
        Due.refused("move to a shut one", x, STATE, () -> x.move(0, 2));
    }

    private static void promise12And13Counters() {
        ScopeWarden x = new ScopeWarden();
        Due.is("count(0, 5)", x.count(0, 5), 5);
        Due.is("count(0, -6)", x.count(0, -6), -1);
        Due.is("counter(0)", x.counter(0), -1);
        Due.is("count(7, MAX)", x.count(7, Integer.MAX_VALUE), Integer.MAX_VALUE);
        Due.is("count(7, 1) wraps", x.count(7, 1), Integer.MIN_VALUE);
        Due.is("counter(7)", x.counter(7), Integer.MIN_VALUE);
        Due.is("counter(1)", x.counter(1), 0);
        Due.refused("count(8, 1)", x, NONE, () -> x.count(8, 1));
        Due.refused("count(-1, 1)", x, NONE, () -> x.count(-1, 1));
        Due.is("counter(8)", x.counter(8), ScopeWarden.NO);
        Due.is("counter(-1)", x.counter(-1), ScopeWarden.NO);
        x.count(3, Integer.MIN_VALUE);
        Due.take(x, 0, "a=+3=-1");
        x.close(0);
        Due.is("a step wraps, too", x.counter(3), Integer.MAX_VALUE);
    }

    private static void promise14Scope() {
        ScopeWarden x = new ScopeWarden();
        x.open(0);
        x.open(1);
        Due.take(x, 0, "a");
        Due.take(x, 1, "b");
        Due.take(x, 2, "c");
        Due.take(x, 2, "d");
        x.close(3);
        Due.task(x, 2, 0, "(;.;)");
        x.tick();
        int[][] due = {{0, -5, 2, 3, 0, -5}, {0, 0, 2, 2, 1, -5}, {0, 1, 2, 1, 2, -5}, {0, 2, 1, 0, 3, 0},
            {0, 3, 0, 0, 4, 0}};
        for (int s = 0; s < due.length; s++) {
            for (int what = 0; what < 6; what++) {
                Due.is("scope(" + s + ", " + what + ")", x.scope(s, what), due[s][what]);
            }
        }
        x.shut(2);
        int[][] then = {{0, -5, 2, 2, 0, -5}, {0, 0, 1, 1, 1, -5}, {1, 1, 0, 0, 2, -5}, {1, 2, 0, 0, 3, 0},
            {1, 3, 0, 0, 4, 0}};
        for (int s = 0; s < then.length; s++) {
            for (int what = 0; what < 6; what++) {
                Due.is("then scope(" + s + ", " + what + ")", x.scope(s, what), then[s][what]);
            }
        }
        Due.is("scope(0, 6)", x.scope(0, 6), NONE);
        Due.is("scope(0, -1)", x.scope(0, -1), NONE);
        Due.is("scope(5, 0)", x.scope(5, 0), NONE);
        Due.is("scope(-1, 0)", x.scope(-1, 0), NONE);
    }

    private static void promise15Below() {
        ScopeWarden x = new ScopeWarden();
        x.open(0);
        x.open(1);
        x.open(0);
        int[][] due = {{1, 0, 0, 0}, {1, 1, 0, 0}, {1, 1, 1, 0}, {1, 0, 0, 1}};
        for (int s = 0; s < 4; s++) {
            for (int other = 0; other < 4; other++) {
                Due.is("below(" + s + ", " + other + ")", x.below(s, other), due[s][other]);
            }
        }
        x.shut(1);
        Due.is("below of a shut one", x.below(2, 1), 1);
        Due.is("below(4, 0)", x.below(4, 0), NONE);
        Due.is("below(0, 4)", x.below(0, 4), NONE);
        Due.is("below(-1, 0)", x.below(-1, 0), NONE);
        Due.is("below(0, -5)", x.below(0, -5), NONE);
    }

    private static void promise16Youngest() {
        ScopeWarden x = new ScopeWarden();
        x.open(0);
        x.open(1);
        x.open(0);
        Due.take(x, 2, "a");
        Due.take(x, 1, "b");
        Due.take(x, 0, "c");
        Due.take(x, 2, "d");
        Due.is("youngest(0)", x.youngest(0), 3);
        Due.is("youngest(1)", x.youngest(1), 3);
        Due.is("youngest(3)", x.youngest(3), -5);
        x.close(3);
        Due.is("youngest(0) then", x.youngest(0), 2);
        Due.is("youngest(1) then", x.youngest(1), 1);
        Due.is("youngest(2) then", x.youngest(2), 0);
        x.move(0, 0);
        Due.is("a move makes none younger", x.youngest(0), 2);
        x.shut(1);
        Due.is("youngest of a shut one", x.youngest(1), -5);
        Due.is("youngest(4)", x.youngest(4), NONE);
        Due.is("youngest(-1)", x.youngest(-1), NONE);
    }

    private static void promise17Entry() {
        ScopeWarden x = new ScopeWarden();
        Due.take(x, 0, "a");
        x.open(0);
        Due.take(x, 0, "b");
        x.open(0);
        Due.take(x, 1, "c");
        Due.is("entries", Due.entries(x, 0), "0 101 1 102");
        Due.is("entry(1, 0)", x.entry(1, 0), 2);
        Due.is("entry(0, 4)", x.entry(0, 4), NONE);
        Due.is("entry(0, -1)", x.entry(0, -1), NONE);
        Due.is("entry(3, 0)", x.entry(3, 0), NONE);
        Due.is("entry(-1, 0)", x.entry(-1, 0), NONE);
        x.shut(1);
        x.close(0);
        Due.is("entries then", Due.entries(x, 0), "1 102");
        Due.is("entry of a shut one", x.entry(1, 0), NONE);
    }

    private static void promise18Thing() {
        ScopeWarden x = new ScopeWarden();
        x.open(0);
        Due.take(x, 1, "a=ab{!1;!2};?0<1:+0=1;.");
        Due.take(x, 0, "c");
        int[][] due = {{0, 1, -5, 3}, {0, 0, -5, 0}};
        for (int t = 0; t < 2; t++) {
            for (int what = 0; what < 4; what++) {
                Due.is("thing(" + t + ", " + what + ")", x.thing(t, what), due[t][what]);
            }
        }
        x.move(1, 1);
        x.close(1);
        x.close(0);
        int[][] then = {{1, 1, 1, 3}, {1, 1, 0, 0}, {0, 1, -5, 2}};
        for (int t = 0; t < 3; t++) {
            for (int what = 0; what < 4; what++) {
                Due.is("then thing(" + t + ", " + what + ")", x.thing(t, what), then[t][what]);
            }
        }
        Due.is("thing(0, 4)", x.thing(0, 4), NONE);
        Due.is("thing(0, -1)", x.thing(0, -1), NONE);
        Due.is("thing(3, 0)", x.thing(3, 0), NONE);
        Due.is("thing(-1, 0)", x.thing(-1, 0), NONE);
    }

    private static void promise19Name() {
        ScopeWarden x = new ScopeWarden();
        Due.take(x, 0, "azbycxd");
        Due.take(x, 0, "m");
        Due.is("name(0, -1)", x.name(0, -1), 7);
        Due.is("name of 0", Due.name(x, 0), "azbycxd");
        Due.is("name(0, 0)", x.name(0, 0), 'a');
        Due.is("name(0, 6)", x.name(0, 6), 'd');
        Due.is("name(0, 7)", x.name(0, 7), NONE);
        for (int i : new int[] {-2, -3, -7, 8, 13, 14, 70, 100, Integer.MIN_VALUE, Integer.MAX_VALUE}) {
            Due.is("name(0, " + i + ")", x.name(0, i), NONE);
        }
        Due.is("name(1, -1)", x.name(1, -1), 1);
        Due.is("name(1, 0)", x.name(1, 0), 'm');
        Due.is("name(1, 1)", x.name(1, 1), NONE);
        Due.is("name(2, 0)", x.name(2, 0), NONE);
        Due.is("name(-1, -1)", x.name(-1, -1), NONE);
        x.close(0);
        Due.is("name of a closed one", Due.name(x, 0), "azbycxd");
    }

    private static void promise20Find() {
        ScopeWarden x = new ScopeWarden();
        Due.take(x, 0, "ab");
        Due.take(x, 0, "a");
        Due.take(x, 0, "abcdefg");
        Due.is("find ab", Due.find(x, "ab"), 0);
        Due.is("find a", Due.find(x, "a"), 1);
        Due.is("find abcdefg", Due.find(x, "abcdefg"), 2);
        Due.is("find abcdefgh", Due.find(x, "abcdefgh"), -5);
        Due.is("find abc", Due.find(x, "abc"), -5);
        Due.is("find of none", Due.find(x, ""), -5);
        Due.is("find a=", Due.find(x, "a="), -5);
        Due.is("find A", Due.find(x, "A"), -5);
        x.close(1);
        Due.is("find of a closed one", Due.find(x, "a"), -5);
        Due.take(x, 0, "a");
        Due.is("find of the one that is held", Due.find(x, "a"), 3);
    }

    private static void promise21From() {
        ScopeWarden x = new ScopeWarden();
        Due.is("from of none", Due.from(x, ""), -5);
        Due.take(x, 0, "b");
        Due.take(x, 0, "ba");
        Due.take(x, 0, "abcdefg");
        Due.take(x, 0, "z");
        String[] texts = {"", "a", "abcdef", "abcdefg", "abcdefga", "b", "baa", "b{", "ba", "z", "za", "A", "{", "\u0001",
            "b\u0001", "bz", "abcdefg\u0001"};
        int[] due = {2, 2, 2, 2, 0, 0, 3, 3, 1, 3, -5, 2, -5, 2, 1, 3, 0};
        for (int i = 0; i < texts.length; i++) {
            Due.is("from " + texts[i], Due.from(x, texts[i]), due[i]);
        }
        x.close(0);
        Due.is("from b when that is closed", Due.from(x, "b"), 1);
        StringBuilder b = new StringBuilder();
        while (b.length() < 120) {
            b.append('b');
        }
        Due.is("from a long one", Due.from(x, b.toString()), 3);
    }

    private static void promise22Rename() {
        ScopeWarden x = new ScopeWarden();
        Due.take(x, 0, "a=!1");
        Due.take(x, 0, "b=xq");
        Due.is("rename(0)", Due.rename(x, 0, "qrstuvw"), 7);
        Due.is("its name", Due.name(x, 0), "qrstuvw");
        Due.is("find", Due.find(x, "qrstuvw"), 0);
        Due.is("find of what it was", Due.find(x, "a"), -5);
        Due.is("rename(0) again", Due.rename(x, 0, "q"), 1);
        String before = Due.world(x);
        Due.is("a held one's", Due.rename(x, 0, "b"), STATE);
        Due.is("its own", Due.rename(x, 0, "q"), STATE);
        Due.is("of none", Due.rename(x, 0, ""), -100);
        Due.is("a fault", Due.rename(x, 0, "ab=."), -102);
        Due.is("too long", Due.rename(x, 0, "abcdefgh"), -107);
        Due.is("they changed nothing", Due.world(x), before);
        Due.put(x, "?");
        Due.refused("rename(2)", x, NONE, () -> x.rename(2));
        Due.refused("rename(-1)", x, NONE, () -> x.rename(-1));
        Due.is("close(1), whose closer closes q", x.close(1), 1);
        Due.is("faults", Due.faults(x, -1), "1:0");
        Due.put(x, "w");
        Due.refused("rename of a closed one", x, STATE, () -> x.rename(1));
        Due.take(x, 0, "c");
        Due.is("a name that was held", Due.rename(x, 2, "q"), 1);
    }

    private static void promise23ByName() {
        ScopeWarden x = new ScopeWarden();
        String[] names = {"b", "abcdefg", "ba", "a", "zz", "ab", "z"};
        for (String name : names) {
            Due.take(x, 0, name);
        }
        int[] due = {3, 5, 1, 0, 2, 6, 4};
        for (int i = 0; i < due.length; i++) {
            Due.is("byName(" + i + ")", x.byName(i), due[i]);
        }
        Due.is("byName(7)", x.byName(7), NONE);
        Due.is("byName(-1)", x.byName(-1), NONE);
        x.close(3);
        Due.is("byName(0) then", x.byName(0), 5);
        Due.is("byName(6) then", x.byName(6), NONE);
        Due.rename(x, 4, "a");
        Due.is("byName(0) by another name", x.byName(0), 4);
    }

    private static void promise24Plan() {
        ScopeWarden x = new ScopeWarden();
        Due.take(x, 0, "a=!1;xb");
        x.open(0);
        Due.take(x, 0, "b");
        x.open(1);
        Due.take(x, 2, "c");
        Due.take(x, 1, "d=xa;xb");
        Due.take(x, 2, "e");
        x.open(0);
        Due.is("plan of the root", Due.plan(x, 0), "1 3 4 2 0");
        Due.is("plan of 1", Due.plan(x, 1), "3 4 2");
        Due.is("plan of 2", Due.plan(x, 2), "4 2");
        Due.is("plan(3, -1)", x.plan(3, -1), 0);
        Due.is("plan(3, 0)", x.plan(3, 0), NONE);
        Due.is("plan(0, 5)", x.plan(0, 5), NONE);
        Due.is("plan(0, -2)", x.plan(0, -2), NONE);
        Due.is("plan(4, 0)", x.plan(4, 0), NONE);
        Due.is("plan(-1, -1)", x.plan(-1, -1), NONE);
        String before = Due.all(x);
        x.plan(0, 2);
        Due.is("plan changes nothing", Due.all(x), before);
        x.move(0, 2);
        Due.is("plan then", Due.plan(x, 0), "1 3 0 4 2");
        Due.take(x, 0, "f");
        Due.is("plan with one more at the end", Due.plan(x, 0), "5 1 3 0 4 2");
        x.close(5);
        x.shut(1);
        Due.is("plan of a shut one", x.plan(1, -1), 0);
        Due.is("plan of the root then", x.plan(0, -1), 0);
    }

    private static void promise25Would() {
        ScopeWarden x = new ScopeWarden();
        x.open(0);
        Due.take(x, 0, "z=!9");
        x.close(0);
        Due.take(x, 0, "y");
        Due.take(x, 1, "a=+0=1;?0<1:!3;ma>0");
        Due.take(x, 1, "b=+0=1;aq");
        Due.take(x, 1, "c=ma>0;my>1;!2");
        // c moves a away, and finds scope 1 not open; b finds that, too
        int[] due = {2, 105, 4, 2, 0, 2};
        String before = Due.all(x);
        for (int what = 0; what < 6; what++) {
            Due.is("would(1, " + what + ")", x.would(1, what), due[what]);
        }
        // in the root none finds a scope open: not c, not b, and a doesn't find itself held
        int[] all = {3, 105, 4, 4, 0, 0};
        for (int what = 0; what < 6; what++) {
            Due.is("would(0, " + what + ")", x.would(0, what), all[what]);
        }
        Due.is("would changes nothing", Due.all(x), before);
        Due.is("faults of the latest call", Due.faults(x, -1), "9:0");
        Due.refused("would(1, 6)", x, NONE, () -> x.would(1, 6));
        Due.refused("would(1, -1)", x, NONE, () -> x.would(1, -1));
        Due.refused("would(2, 0)", x, NONE, () -> x.would(2, 0));
        Due.refused("would(-1, 0)", x, NONE, () -> x.would(-1, 0));
        Due.is("shut(1)", x.shut(1), 2);
        Due.is("faults of it", Due.faults(x, -1), "105:4 101:3");
        Due.is("would of a shut one", x.would(1, 0), STATE);
        Due.is("would of a shut one, what 6", x.would(1, 6), NONE);
        ScopeWarden w = new ScopeWarden();
        w.open(0);
        w.open(1);
        Due.take(w, 2, "a");
        Due.take(w, 1, "b=+0=1");
        Due.take(w, 0, "c");
        int[] below = {3, 2, 1};
        for (int s = 0; s < 3; s++) {
            Due.is("would(" + s + ", 3)", w.would(s, 3), below[s]);
            Due.is("would(" + s + ", 5)", w.would(s, 5), s);
        }
        ScopeWarden y = new ScopeWarden();
        y.open(0);
        y.open(0);
        Due.take(y, 1, "a=au;au;!1");
        Due.take(y, 2, "b=xa;am;aa");
        int[] took = {2, 102, 0, 2, 1, 1};
        for (int what = 0; what < 6; what++) {
            Due.is("would(2, " + what + ")", y.would(2, what), took[what]);
        }
        int[] none = {0, 0, -1, 0, 0, 2};
        y.open(0);
        for (int what = 0; what < 6; what++) {
            Due.is("would(3, " + what + ")", y.would(3, what), none[what]);
        }
        y.shut(2);
        int[] left = {0, 0, -1, 1, 0, 0};
        for (int what = 0; what < 6; what++) {
            Due.is("would(0, " + what + ")", y.would(0, what), left[what]);
        }
    }

    private static void promise27Log() {
        ScopeWarden x = new ScopeWarden();
        Due.is("log(0) of none", x.log(0), NONE);
        Due.take(x, 0, "a");
        Due.take(x, 0, "b=xa");
        Due.take(x, 0, "c");
        x.close(2);
        x.close(1);
        Due.is("log(0)", x.log(0), 2);
        Due.is("log(1)", x.log(1), 0);
        Due.is("log(2)", x.log(2), 1);
        Due.is("log(3)", x.log(3), NONE);
        Due.is("log(-1)", x.log(-1), NONE);
        for (int i = 0; i < 3; i++) {
            Due.is("place in the log", x.thing(x.log(i), 2), i);
        }
    }

    private static void promise28And29Faults() {
        ScopeWarden x = new ScopeWarden();
        Due.take(x, 0, "a=!1");
        Due.take(x, 0, "b=!2");
        Due.take(x, 0, "c=!3;xb");
        Due.task(x, 0, 0, "xa;xb;!50");
        Due.is("faults(-1) at first", x.faults(-1), 0);
        Due.is("faults(0) at first", x.faults(0), 0);
        Due.is("fault(0, 0, 0) at first", x.fault(0, 0, 0), NONE);
        x.close(2);
        Due.is("faults(-1)", x.faults(-1), 1);
        Due.is("fault(-1, 0, 0)", x.fault(-1, 0, 0), 3);
        Due.is("fault(-1, 0, 1)", x.fault(-1, 0, 1), 2);
        x.tick();
        Due.is("faults(0)", x.faults(0), 3);
        Due.is("fault(0, 0, 0), its own", x.fault(0, 0, 0), 50);
        Due.is("fault(0, 0, 1)", x.fault(0, 0, 1), -1);
        Due.is("the others behind it", Due.faults(x, 0), "50:-1 1:0 2:1");
        Due.is("faults(-1) by a tick", Due.faults(x, -1), "3:2");
        Due.is("fault(0, 3, 0)", x.fault(0, 3, 0), NONE);
        Due.is("fault(0, -1, 0)", x.fault(0, -1, 0), NONE);
        Due.is("fault(0, 0, 2)", x.fault(0, 0, 2), NONE);
        Due.is("fault(0, 0, -1)", x.fault(0, 0, -1), NONE);
        Due.is("fault(0, 1, 2)", x.fault(0, 1, 2), NONE);
        Due.is("fault(0, 1, -1)", x.fault(0, 1, -1), NONE);
        Due.is("fault(-1, 0, 2)", x.fault(-1, 0, 2), NONE);
        Due.is("fault(-1, 0, -1)", x.fault(-1, 0, -1), NONE);
        Due.is("fault(1, 0, 0)", x.fault(1, 0, 0), NONE);
        Due.is("fault(-2, 0, 0)", x.fault(-2, 0, 0), NONE);
        Due.is("faults(1)", x.faults(1), NONE);
        Due.is("faults(-2)", x.faults(-2), NONE);
        Due.is("faults(10)", x.faults(10), NONE);
        x.close(0);
        Due.is("faults(-1) behind a refused close", Due.faults(x, -1), "3:2");
        x.shut(0);
        Due.is("faults(-1) behind a shut that gathers none", x.faults(-1), 0);
        Due.is("faults(0) then", x.faults(0), 3);
    }

    private static void promise37Told() {
        ScopeWarden x = new ScopeWarden();
        x.open(0);
        x.open(1);
        x.open(0);
        Due.take(x, 1, "a");
        Due.take(x, 0, "b=+0=1");
        Due.take(x, 3, "c");
        Due.task(x, 0, 0, ".;.");
        Due.task(x, 0, 0, ".");
        x.shut(1);
        x.run(2);
        x.spell(1);
        Due.put(x, "abc");
        int[] due = {6, 3, 3, 2, 2, 1, 2, 1, 3, 4};
        for (int what = 0; what < due.length; what++) {
            Due.is("told(" + what + ")", x.told(what), due[what]);
        }
        Due.is("told(10)", x.told(10), NONE);
        Due.is("told(-1)", x.told(-1), NONE);
    }

    /** As many closers in one another, and scopes, as there can be. */
    private static void deepest() {
        ScopeWarden x = new ScopeWarden();
        for (int i = 0; i < 59; i++) {
            x.open(i);
        }
        for (int i = 0; i < 90; i++) {
            String name = "t" + (char) ('a' + i / 26) + (char) ('a' + i % 26);
            int next = i + 1;
            String nextName = "t" + (char) ('a' + next / 26) + (char) ('a' + next % 26);
            Due.take(x, i % 60, name + "=x" + nextName + ";!" + (1 + i % 99));
        }
        Due.is("scope(59, 4)", x.scope(59, 4), 59);
        Due.is("would(59, 0)", x.would(59, 0), 31);
        Due.is("close(0)", x.close(0), 90);
        Due.is("the first fault", x.fault(-1, 0, 0), 104);
        Due.is("the thing of it", x.fault(-1, 0, 1), 89);
        Due.is("the last fault", x.fault(-1, 89, 0), 1);
        Due.is("the thing of it", x.fault(-1, 89, 1), 0);
        for (int i = 0; i < 90; i++) {
            Due.is("log", x.log(i), 89 - i);
        }
        Due.is("shut(0)", x.shut(0), 0);
        Due.is("open ones then", x.told(1), 1);
    }
}
