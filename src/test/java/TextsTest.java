/** Promises 1 to 6: a new object, THE TAPE, texts with and without faults, THE PAPER. */
public final class TextsTest {
    public static void main(String[] args) {
        promise1New();
        promise2Feed();
        promise3Clear();
        promise4Spell();
        promise5SpellTask();
        promise6Paper();
        textsOfClosers();
        textsOfTasks();
        textsOneBehindTheOther();
        tapeBehindReading();
        Due.end();
    }

    private static void promise1New() {
        ScopeWarden x = new ScopeWarden();
        int[] told = {1, 1, 0, 0, 0, 0, 0, 0, 0, 0};
        for (int what = 0; what < told.length; what++) {
            Due.is("told(" + what + ") of a new one", x.told(what), told[what]);
        }
        int[] root = {0, -5, 0, 0, 0, -5};
        for (int what = 0; what < root.length; what++) {
            Due.is("scope(0, " + what + ") of a new one", x.scope(0, what), root[what]);
        }
        for (int k = 0; k < 8; k++) {
            Due.is("counter of a new one", x.counter(k), 0);
        }
        for (int r = 0; r < 4; r++) {
            Due.is("set of a new one", x.set(r, 0, 0), -11);
        }
        Due.is("faults(-1) of a new one", x.faults(-1), 0);
        Due.is("undo of a new one", x.undo(), ScopeWarden.STATE);
        Due.is("NONE", ScopeWarden.NONE, -1);
        Due.is("BAD", ScopeWarden.BAD, -2);
        Due.is("STATE", ScopeWarden.STATE, -3);
        Due.is("FULL", ScopeWarden.FULL, -4);
        Due.is("NO", ScopeWarden.NO, Long.MIN_VALUE);
        ScopeWarden other = new ScopeWarden();
        Due.take(other, 0, "a");
        Due.is("told(2) beside another object", x.told(2), 0);
    }

    private static void promise2Feed() {
        ScopeWarden x = new ScopeWarden();
        for (int bad : new int[] {0, -1, 128, 353, Integer.MIN_VALUE, Integer.MAX_VALUE}) {
            Due.refused("feed(" + bad + ")", x, ScopeWarden.BAD, () -> x.feed(bad));
        }
        Due.is("feed(1)", x.feed(1), 1);
        Due.is("feed(127)", x.feed(127), 2);
        for (int i = 3; i <= 120; i++) {
            Due.is("feed", x.feed('b'), i);
        }
        Due.refused("the 121st byte", x, ScopeWarden.FULL, () -> x.feed('b'));
        Due.refused("a bad one on a full tape", x, ScopeWarden.BAD, () -> x.feed(128));
        Due.is("told(8)", x.told(8), 120);
    }

    private static void promise3Clear() {
        ScopeWarden x = new ScopeWarden();
        Due.is("clear of none", x.clear(), 0);
        x.feed('a');
        x.feed('b');
        Due.is("clear", x.clear(), 2);
        Due.is("told(8) then", x.told(8), 0);
        Due.is("clear again", x.clear(), 0);
        Due.is("feed then", x.feed('c'), 1);
        Due.is("take of what is fed then", x.take(0), 0);
        Due.is("its name", Due.name(x, 0), "c");
    }

    private static void promise4Spell() {
        ScopeWarden x = new ScopeWarden();
        Due.take(x, 0, "a=+0=00007;+7=-00120;+1=-0;+2=-00000;+3=99999;+4=-99999;!07;!99");
        Due.is("spell(0)", x.spell(0), "+0=7;+7=-120;+1=0;+2=0;+3=99999;+4=-99999;!7;!99".length());
        Due.is("told(9)", x.told(9), x.spell(0));
        Due.is("the paper", Due.paper(x), "+0=7;+7=-120;+1=0;+2=0;+3=99999;+4=-99999;!7;!99");
        Due.take(x, 0, "b=aq{xabcdefg;ar{mzz>07;k0;.};ak};?3<-012:av{!1};?0<-0:.;.");
        Due.is("paper by a take", Due.paper(x), "+0=7;+7=-120;+1=0;+2=0;+3=99999;+4=-99999;!7;!99");
        Due.is("a closer with others in it", Due.closer(x, 1),
                "aq{xabcdefg;ar{mzz>7;k0;.};ak};?3<-12:av{!1};?0<0:.;.");
        Due.refused("spell(2)", x, ScopeWarden.NONE, () -> x.spell(2));
        Due.refused("spell(-1)", x, ScopeWarden.NONE, () -> x.spell(-1));
        x.close(1);
        Due.is("the closer of one that a closer took", Due.closer(x, 2), "xabcdefg;ar{mzz>7;k0;.};ak");
        Due.is("the closer of a closed one", Due.closer(x, 1),
                "aq{xabcdefg;ar{mzz>7;k0;.};ak};?3<-12:av{!1};?0<0:.;.");
        Due.take(x, 0, "c");
        Due.take(x, 0, "d=?0<-1:ap{?0<-01:ap{?0<1:+0=-1;?1<1:!1}}");
        Due.is("with a ? in each", Due.closer(x, x.told(2) - 1), "?0<-1:ap{?0<-1:ap{?0<1:+0=-1;?1<1:!1}}");
        int c = x.told(2) - 2;
        Due.is("spell of one without a closer", x.spell(c), 0);
        Due.is("the paper then", x.paper(0), ScopeWarden.NONE);
    }

    private static void promise5SpellTask() {
        ScopeWarden x = new ScopeWarden();
        Due.refused("spellTask(0) of none", x, ScopeWarden.NONE, () -> x.spellTask(0));
        Due.task(x, 0, 0, "(;ab{!05;.};.;?1<-00:mb>00;xb;);+0=010;.");
        Due.is("spellTask(0)", x.spellTask(0), "(;ab{!5;.};.;?1<0:mb>0;xb;);+0=10;.".length());
        Due.is("the paper", Due.paper(x), "(;ab{!5;.};.;?1<0:mb>0;xb;);+0=10;.");
        x.run(100);
        Due.is("spelled when it is over", Due.steps(x, 0), "(;ab{!5;.};.;?1<0:mb>0;xb;);+0=10;.");
        Due.refused("spellTask(1)", x, ScopeWarden.NONE, () -> x.spellTask(1));
        Due.refused("spellTask(-1)", x, ScopeWarden.NONE, () -> x.spellTask(-1));
        Due.is("the longest", Due.task(x, 0, 0, longest()), 1);
        Due.is("the longest, spelled", x.spellTask(1), 120);
        Due.is("the longest, spelled", Due.paper(x), longest());
    }

    private static String longest() {
        StringBuilder b = new StringBuilder("k0");
        while (b.length() < 120) {
            b.append(";.");
        }
        return b.toString();
    }

    private static void promise6Paper() {
        ScopeWarden x = new ScopeWarden();
        Due.is("paper(0) of none", x.paper(0), ScopeWarden.NONE);
        Due.take(x, 0, "a=k7");
        Due.take(x, 0, "b=.");
        x.spell(0);
        Due.is("paper(0)", x.paper(0), 'k');
        Due.is("paper(1)", x.paper(1), '7');
        Due.is("paper(2)", x.paper(2), ScopeWarden.NONE);
        Due.is("paper(-1)", x.paper(-1), ScopeWarden.NONE);
        Due.is("paper(MAX)", x.paper(Integer.MAX_VALUE), ScopeWarden.NONE);
        Due.is("paper(MIN)", x.paper(Integer.MIN_VALUE), ScopeWarden.NONE);
        x.spell(1);
        Due.is("a shorter one on it", Due.paper(x), ".");
        Due.is("paper(1) then", x.paper(1), ScopeWarden.NONE);
    }

    private static void thingFault(String text, int fault) {
        ScopeWarden x = new ScopeWarden();
        Due.put(x, text);
        int before = x.told(8);
        Due.is("bytes of " + text, before, text.length());
        int answer = x.take(0);
        Due.is("take with " + text, answer, fault < 0 ? 0 : -100 - fault);
        Due.is("told(2) behind " + text, x.told(2), fault < 0 ? 1 : 0);
        Due.is("the tape behind " + text, x.told(8), 0);
    }

    private static void taskFault(String text, int fault) {
        ScopeWarden x = new ScopeWarden();
        Due.is("task with " + text, Due.task(x, 0, 0, text), fault < 0 ? 0 : -100 - fault);
        Due.is("told(4) behind " + text, x.told(4), fault < 0 ? 1 : 0);
        Due.is("told(0) behind " + text, x.told(0), fault < 0 ? 2 : 1);
        Due.is("the tape behind " + text, x.told(8), 0);
    }

    private static void textsOfClosers() {
        thingFault("", 0);
        thingFault("A", 0);
        thingFault("`", 0);
        thingFault("{", 0);
        thingFault("=", 0);
        thingFault("abcdefg", -1);
        thingFault("abcdefgh", 7);
        thingFault("az9", 2);
        thingFault("a=", 2);
        thingFault("a=;", 2);
        thingFault("a=b", 2);
        thingFault("a=.", -1);
        thingFault("a=.;", 4);
        thingFault("a=. ;.", 3);
        thingFault("a=}", 2);
        thingFault("a=.}", 3);
        thingFault("a=(", 2);
        thingFault("a=)", 2);
        thingFault("a=.;(;)", 4);
        thingFault("a=ab{(;)}", 5);
        thingFault("a=?0<1:(", 7);
        thingFault("a=?0<1:)", 7);
        thingFault("a=?0<1:?0<1:.", 7);
        thingFault("a=?0<1:.", -1);
        thingFault("a=?0<1:", 7);
        thingFault("a=?8<1:.", 3);
        thingFault("a=?0=1:.", 4);
        thingFault("a=?0<:.", 5);
        thingFault("a=?0<1;.", 6);
        thingFault("a=?0<-99999:.", -1);
        thingFault("a=?0<123456:.", 10);
        // one {..} more than what stands behind = may hold two others, the inner one of them none
        thingFault("a=ab{ac{.}}", -1);
        thingFault("a=ab{ac{ad{.}}}", 10);
        thingFault("a=ab{ac{ad}}", -1);
        thingFault("a=ab{ac{.};ad{.}};ae{af{.}}", -1);
        thingFault("a=ab{}", 5);
        thingFault("a=ab{", 5);
        thingFault("a=ab{.", 6);
        thingFault("a=ab{.;}", 7);
        thingFault("a=ab{.}.", 7);
        thingFault("a=ab{.};.", -1);
        thingFault("a=xb{.}", 4);
        thingFault("a=?0<1:ab{ac{.}}", -1);
        thingFault("a=+8=1", 3);
        thingFault("a=+=1", 3);
        thingFault("a=+01=1", 4);
        thingFault("a=+0=", 5);
        thingFault("a=+0=-", 6);
        thingFault("a=+0=--1", 6);
        thingFault("a=+0=+1", 5);
        thingFault("a=+0=99999", -1);
        thingFault("a=+0=-99999", -1);
        thingFault("a=+0=000001", 10);
        thingFault("a=+0=1x", 6);
        thingFault("a=!", 3);
        thingFault("a=!x", 3);
        thingFault("a=!0", 3);
        thingFault("a=!00", 3);
        thingFault("a=!000", 3);
        thingFault("a=!0;.", 3);
        thingFault("a=!0x", 3);
        thingFault("a=!05", -1);
        thingFault("a=!99", -1);
        thingFault("a=!100", 5);
        thingFault("a=!-1", 3);
        thingFault("a=xabcdefgh", 10);
        thingFault("a=x", 3);
        thingFault("a=x;", 3);
        thingFault("a=mb", 4);
        thingFault("a=mb>", 5);
        thingFault("a=mb>x", 5);
        thingFault("a=mb>99", -1);
        thingFault("a=mb>100", 7);
        thingFault("a=mb<1", 4);
        thingFault("a=k", 3);
        thingFault("a=k9", -1);
        thingFault("a=k10", 4);
        thingFault("a=k:", 3);
        thingFault("a=k/", 3);
        thingFault("a=+0=1:", 6);
        thingFault("a=!:", 3);
        thingFault("a=..", 3);
    }

    private static void textsOfTasks() {
        taskFault("", 0);
        taskFault(";", 0);
        taskFault("a", 1);
        taskFault("ab", -1);
        taskFault("ab=.", 2);
        taskFault("(", 1);
        taskFault("(;", 2);
        taskFault("(;)", -1);
        taskFault("()", 1);
        taskFault(")", 0);
        taskFault("(;);)", 4);
        taskFault("(;(;)", 5);
        taskFault("(;(;);.;)", -1);
        taskFault("(;);(;)", -1);
        taskFault("?0<1:(;)", 5);
        taskFault("(;?0<1:)", 7);
        taskFault("(;ab{)}", 5);
        taskFault("(;ab{.};)", -1);
        taskFault("(;ab{.}", 7);
        taskFault("(;!0", 3);
        taskFault("aa{ab{ac{.}}}", -1);
        taskFault("aa{ab{ac{ad{.}}}}", 11);
        taskFault("aa{ab{ac{ad}}}", -1);
        taskFault("?1<2:aa{ab{ac{?1<2:ad}}}", -1);
        taskFault(".", -1);
        taskFault(".;", 2);
        taskFault("+0=1 ", 4);
        taskFault("y", 0);
        taskFault("+0=1;y", 5);
    }

    private static void textsOneBehindTheOther() {
        ScopeWarden x = new ScopeWarden();
        Due.is("an open (", Due.task(x, 0, 0, "(;("), -103);
        Due.is("none behind it", Due.task(x, 0, 0, "."), 0);
        Due.is("a ) behind it", Due.task(x, 0, 0, "(;);)"), -104);
        Due.is("a fault, then none", Due.take(x, 0, "a"), 0);
    }

    private static void tapeBehindReading() {
        ScopeWarden x = new ScopeWarden();
        Due.take(x, 0, "a");
        Due.is("take of a held name", Due.take(x, 0, "a=."), ScopeWarden.STATE);
        Due.is("the tape behind that", x.told(8), 0);
        Due.find(x, "a");
        Due.is("the tape behind find()", x.told(8), 0);
        Due.from(x, "a?");
        Due.is("the tape behind from()", x.told(8), 0);
        Due.rename(x, 0, "b");
        Due.is("the tape behind rename()", x.told(8), 0);
        Due.rename(x, 0, "b");
        Due.is("the tape behind a rename() that is refused by its name", x.told(8), 0);
        Due.rename(x, 0, "B");
        Due.is("the tape behind a fault", x.told(8), 0);
        Due.rename(x, 9, "c");
        Due.is("the tape behind rename() of none", x.told(8), 1);
        Due.take(x, 9, "cd");
        Due.is("the tape behind take() into none", x.told(8), 2);
        Due.task(x, 9, 0, ".;.");
        Due.is("the tape behind task() in none", x.told(8), 3);
        Due.task(x, 0, 100, "....");
        Due.is("the tape behind a bad priority", x.told(8), 4);
        int[] changing = {x.told(8), x.tick(), x.run(1), x.shut(0), x.image(), x.undo(), x.told(8)};
        Due.is("the tape behind calls that don't read it", x.told(8), 4);
        Due.is("the tape behind calls that don't read it", changing[6], 4);
    }
}
