/** Term 3, sentence by sentence: THE TAPE, texts of steps, spelling, plan, rows, the image at their edges. */
public final class Term3EdgesTest {
    private static final int NONE = ScopeWarden.NONE, STATE = ScopeWarden.STATE;

    public static void main(String[] args) {
        theTape();
        parts();
        bracesInOneAnother();
        brackets();
        bracketsInOneAnother();
        faultOfANumber();
        faultOfAByte();
        faultOfAnEnd();
        doesNothing();
        namesAndNumbers();
        theFirstFault();
        spelled();
        thePaper();
        plan();
        planOfWhatClosersWouldDo();
        rows();
        noSuchPlaces();
        laid();
        judged();
        theImage();
        theImageAndWhatStays();
        Doc.isQuoted("Term 3");
        Due.end();
    }

    private static void says(String words) {
        Doc.says("Term 3", words);
    }

    /** The text of a thing has its fault there; at -1: none. */
    private static void thing(String text, int fault) {
        ScopeWarden x = new ScopeWarden();
        Due.is("take with " + text, Due.take(x, 0, text), fault < 0 ? 0 : -100 - fault);
        Due.is("told(2) behind " + text, x.told(2), fault < 0 ? 1 : 0);
    }

    /** The text of a task has its fault there; at -1: none. */
    private static void task(String text, int fault) {
        ScopeWarden x = new ScopeWarden();
        Due.is("task with " + text, Due.task(x, 0, 0, text), fault < 0 ? 0 : -100 - fault);
        Due.is("told(4) behind " + text, x.told(4), fault < 0 ? 1 : 0);
    }

    private static String times(String text, int many) {
        StringBuilder b = new StringBuilder();
        for (int i = 0; i < many; i++) {
            b.append(text);
        }
        return b.toString();
    }

    /** One with THE LOG 0 1 2 .. (so many). */
    private static ScopeWarden logged(int many) {
        ScopeWarden x = new ScopeWarden();
        for (int i = 0; i < many; i++) {
            Due.take(x, 0, "a");
            x.close(i);
        }
        return x;
    }

    private static String row(ScopeWarden x, int row) {
        StringBuilder b = new StringBuilder();
        for (int i = 0; x.get(row, i) != ScopeWarden.NO; i++) {
            b.append(i == 0 ? "" : " ").append(x.get(row, i));
        }
        return b.toString();
    }

    private static void theTape() {
        says("THE TAPE holds 0 .. 120 bytes.");
        ScopeWarden x = new ScopeWarden();
        Due.is("told(8) at first", x.told(8), 0);
        Due.is("clear of none", x.clear(), 0);
        for (int i = 1; i <= 120; i++) {
            Due.is("feed", x.feed('a' + i % 26), i);
        }
        Due.refused("a 121st", x, ScopeWarden.FULL, () -> x.feed('a'));
        Due.is("clear of all", x.clear(), 120);
        Due.is("clear again", x.clear(), 0);
        task(times(".;", 59) + "k0", -1);
        task(times(".;", 60), 120);
        task(times("k0;", 39) + "k0.", 119);
        thing("abcdefg=" + times(".;", 55) + "k0", -1);
        Due.is("the longest name that can be fed", Due.find(x, times("a", 120)), -5);
        ScopeWarden y = new ScopeWarden();
        Due.task(y, 0, 0, times("+0=1;", 23) + "+0=10");
        y.tick();
        Due.is("all of 120 bytes were read", y.counter(0), 33);
        Due.is("spellTask", y.spellTask(0), 120);
        Due.is("the last byte", y.paper(119), '0');
        Due.is("one behind it", y.paper(120), NONE);
    }

    private static void parts() {
        says("STEPS as a text (no blanks): parts, one or more, parted by ; , each a STEP as above.");
        thing("a=", 2);
        thing("a=.", -1);
        thing("a=.;.", -1);
        thing("a=;", 2);
        thing("a=;.", 2);
        thing("a=.;", 4);
        thing("a=.;;.", 4);
        thing("a=. ;.", 3);
        thing("a= .", 2);
        thing(" a=.", 0);
        thing("a =.", 1);
        thing("a=.,.", 3);
        thing("a=..", 3);
        thing("a=+0=1 ", 6);
        thing("a=+0= 1", 5);
        thing("a=\t", 2);
        thing("a=\u0001", 2);
        thing("a=\u007f", 2);
        thing("a=+0=1;!1;ab;ab{.};xb;mb>1;k0;?0<1:.;.", -1);
        task("", 0);
        task(";", 0);
        task(".", -1);
        task("+0=1;!1;ab;ab{.};xb;mb>1;k0;?0<1:.;.;(;)", -1);
        for (char c = 1; c <= 127; c++) {
            boolean begins = "+!axmk?.(".indexOf(c) >= 0;
            task("" + c, c == '.' ? -1 : begins ? 1 : 0);
        }
    }

    private static void bracesInOneAnother() {
        says("In a {..} within 2 others there is no {..} (what stands behind = in take() counts as one).");
        task("aa{.}", -1);
        task("aa{ab{.}}", -1);
        task("aa{ab{ac{.}}}", -1);
        task("aa{ab{ac{ad}}}", -1);
        task("aa{ab{ac{ad{.}}}}", 11);
        task("aa{ab{ac{.;?0<1:ad{.}}}}", 18);
        task("aa{ab{ac{.}};ad{ae{.};af{.}}};ag{ah{ai{.}}}", -1);
        thing("a=aa{.}", -1);
        thing("a=aa{ab{.}}", -1);
        thing("a=aa{ab{ac}}", -1);
        thing("a=aa{ab{ac{.}}}", 10);
        thing("a=aa{ab{?0<1:ac{.}}}", 15);
        thing("a=aa{ab{.};ac{.}};ad{ae{.}}", -1);
        ScopeWarden x = new ScopeWarden();
        Due.take(x, 0, "a=ab{ac{ad;+0=1}}");
        x.close(0);
        x.close(1);
        x.close(2);
        Due.is("the innermost one is done", x.counter(0), 1);
        Due.is("what it took", Due.find(x, "d"), 3);
    }

    private static void brackets() {
        says("( and ) must fit one another, none may be left open.");
        task("(;)", -1);
        task("(;);(;)", -1);
        task("(;(;);)", -1);
        task(")", 0);
        task(");(", 0);
        task("(;);)", 4);
        task("(;););(", 4);
        task("(", 1);
        task("(;", 2);
        task("(;.", 3);
        task("(;(;)", 5);
        task("(;);(", 5);
        task("()", 1);
        task("(.)", 1);
        task("(;.)", 3);
    }

    private static void bracketsInOneAnother() {
        String deep = times("(;", 30) + times(");", 29) + ")";
        task(deep, -1);
        task(times("(;", 59) + "(", 119);
        task(times("(;", 60), 120);
        ScopeWarden x = new ScopeWarden();
        Due.task(x, 0, 0, times("(;", 20) + ".;aa;" + times(");", 20) + "+0=1");
        x.tick();
        Due.is("twenty in one another", x.scope(21, 4), 21);
        Due.is("its scopes", x.of(0, 4), 21);
        x.tick();
        Due.is("it is done", x.of(0, 0), 1);
        Due.is("what stood in the innermost", x.thing(0, 1), 21);
        Due.is("counter(0)", x.counter(0), 1);
    }

    private static void faultOfANumber() {
        says("FAULT of a text: of a number that may not be where it begins;");
        thing("a=!0", 3);
        thing("a=!00", 3);
        thing("a=.;!0", 5);
        thing("a=ab{!00}", 6);
        thing("a=?0<1:!0", 8);
        thing("a=+8=1", 3);
        thing("a=+9=1", 3);
        thing("a=?8<1:.", 3);
        task("!0", 1);
        task("!00", 1);
        task("+8=1", 1);
        task("?9<1:.", 1);
    }

    private static void faultOfAByte() {
        says("otherwise the place (from 0) of the first byte with which no such text goes on;");
        thing("0", 0);
        thing("A=.", 0);
        thing("a0", 1);
        thing("a;", 1);
        thing("abc?", 3);
        thing("a=y", 2);
        thing("a=+x", 3);
        thing("a=+0x", 4);
        thing("a=+0=x", 5);
        thing("a=+0=-x", 6);
        thing("a=+0=1x", 6);
        thing("a=!x", 3);
        thing("a=!1x", 4);
        thing("a=!11x", 5);
        thing("a=a0", 3);
        thing("a=ab0", 4);
        thing("a=ab{x", 6);
        thing("a=ab{0", 5);
        thing("a=ab{.x", 6);
        thing("a=ab{.}x", 7);
        thing("a=ab{.}}", 7);
        thing("a=.}", 3);
        thing("a={.}", 2);
        thing("a{.}", 1);
        thing("a=x0", 3);
        thing("a=xb0", 4);
        thing("a=xb{.}", 4);
        thing("a=m0", 3);
        thing("a=mb0", 4);
        thing("a=mb>x", 5);
        thing("a=mb>1x", 6);
        thing("a=mb>11x", 7);
        thing("a=kx", 3);
        thing("a=k0x", 4);
        thing("a=?x", 3);
        thing("a=?0x", 4);
        thing("a=?0<x", 5);
        thing("a=?0<1x", 6);
        thing("a=?0<1:0", 7);
        thing("a=?0<1:.x", 8);
        thing("a=.x", 3);
        thing("a==", 2);
        for (String sign : new String[] {"/", ":"}) {
            // the signs below 0 and above 9
            thing("a=+" + sign, 3);
            thing("a=+0=" + sign, 5);
            thing("a=+0=1" + sign, 6);
            thing("a=!" + sign, 3);
            thing("a=!1" + sign, 4);
            thing("a=mb>" + sign, 5);
            thing("a=mb>1" + sign, 6);
            thing("a=k" + sign, 3);
            thing("a=?" + sign, 3);
            thing("a=?0<" + sign, 5);
        }
        for (String sign : new String[] {"`", "{"}) {
            // the signs below a and above z
            thing("a=x" + sign, 3);
            thing("a=xb" + sign, 4);
            thing("a=m" + sign, 3);
            thing("a=mb" + sign, 4);
            thing("a=a" + sign, 3);
        }
        task("a{.}", 1);
        task("ab=.", 2);
    }

    private static void faultOfAnEnd() {
        says("the length, if it ends too early.");
        String[] whole = {"+0=-1", "!1", "ab{.}", "xb", "mb>1", "k0", "?0<-1:.", ".;.", "ab{!1;?1<1:k1}"};
        String enough = " +0=-1 +0=1 !1 ab xb mb>1 k0 . ";
        for (String text : whole) {
            for (int length = 0; length < text.length(); length++) {
                String begin = text.substring(0, length);
                boolean ends = enough.contains(" " + begin + " ");
                task(begin, ends ? -1 : length);
                thing("abc=" + begin, ends ? -1 : length + 4);
            }
            task(text, -1);
            thing("abc=" + text, -1);
        }
        thing("", 0);
        task("", 0);
        task("(;+0=1", 6);
        task("+0=-", 4);
        ScopeWarden x = new ScopeWarden();
        Due.take(x, 0, "a");
        Due.is("rename to none", Due.rename(x, 0, ""), -100);
    }

    private static void doesNothing() {
        says("A text with a FAULT does nothing.");
        ScopeWarden x = new ScopeWarden();
        Due.take(x, 0, "a=!1");
        Due.task(x, 0, 0, ".;.");
        x.close(0);
        Due.take(x, 0, "b");
        x.spell(0);
        x.row(0, 3);
        String before = Due.all(x);
        Due.is("take", Due.take(x, 0, "c=+0=1;xb;y"), -110);
        Due.is("take", Due.take(x, 0, "c=ad;ad{.};"), -111);
        Due.is("take", Due.take(x, 0, "9"), -100);
        Due.is("task", Due.task(x, 0, 0, "+0=1;k0;(;!0;)"), -111);
        Due.is("task", Due.task(x, 0, 0, "(;aq"), -104);
        Due.is("rename", Due.rename(x, 1, "cc1"), -102);
        Due.is("find", Due.find(x, "b="), -5);
        Due.is("all is as it was", Due.all(x), before);
        Due.is("the number of the next thing", Due.take(x, 0, "c"), 2);
        Due.is("of the next task", Due.task(x, 0, 0, "."), 1);
        Due.is("of the next scope", x.open(0), 3);
    }

    private static void namesAndNumbers() {
        says("A NAME is as many letters as stand there, 7 at most; numbers as many figures as stand there, so many at "
                + "most (those are looked at ahead of the byte behind);");
        thing("abcdefg", -1);
        thing("abcdefgh", 7);
        thing("abcdefgh=.", 7);
        thing("a=xabcdefg", -1);
        thing("a=xabcdefgh", 10);
        thing("a=aabcdefgh{.}", 10);
        thing("a=mabcdefgh>0", 10);
        thing("a=axm{.}", -1);
        thing("a=xx", -1);
        thing("a=!123", 5);
        thing("a=!120", 5);
        thing("a=mb>123", 7);
        thing("a=k12", 4);
        thing("a=+12=1", 4);
        thing("a=?12<1:.", 4);
        thing("a=+0=12345", -1);
        thing("a=+0=123456", 10);
        thing("a=+0=-12345", -1);
        thing("a=+0=-123456", 11);
        thing("a=?0<12345:.", -1);
        thing("a=?0<123456:.", 10);
        thing("a=!0x", 3);
        thing("a=!00x", 3);
        thing("a=!000", 3);
        thing("a=!001", 3);
        thing("a=!01", -1);
        thing("a=!010", 5);
        thing("a=+8x", 3);
        ScopeWarden x = new ScopeWarden();
        Due.take(x, 0, "a=!12");
        x.close(0);
        Due.is("two figures are one number", Due.faults(x, -1), "12:0");
        Due.take(x, 0, "a=axm{.}");
        x.close(1);
        Due.is("letters of steps in a name", Due.name(x, 2), "xm");
    }

    private static void theFirstFault() {
        says("read from the left, the first FAULT that is met is told.");
        thing("9=!0;!0", 0);
        thing("a=!0;!0", 3);
        thing("a=!1;!0;y", 6);
        thing("a=y;!0", 2);
        thing("a=!100;!0", 5);
        thing("a=ab{!0}}", 6);
        thing("a=ab{};!0", 5);
        task(");!0", 0);
        task("!0;)", 1);
        task("(;!0", 3);
        task("(;y", 2);
        task("(;););!0", 4);
    }

    private static void spelled() {
        says("SPELLED, STEPS: as they were read, numbers as short as can be (-0 as 0).");
        String[] read = {"+0=-0", "+0=-00000", "+0=00000", "+0=00001", "+0=-00001", "+7=99999", "+7=-99999", "+1=10000",
            "+1=-09090", "+1=00100", "!01", "!10", "!09", "!9", "!99", "mb>00", "mb>01", "mb>9", "mb>10", "mb>99", "k0", "k9",
            "?0<-0:!01", "?7<-00099:mb>07", "?0<00000:.", "ab", "ab{!01}", "azzzzzzz{ab{+0=-0;xc};?0<01:ad{.}}", "xa", ".",
            ".;."};
        String[] due = {"+0=0", "+0=0", "+0=0", "+0=1", "+0=-1", "+7=99999", "+7=-99999", "+1=10000",
            "+1=-9090", "+1=100", "!1", "!10", "!9", "!9", "!99", "mb>0", "mb>1", "mb>9", "mb>10", "mb>99", "k0", "k9",
            "?0<0:!1", "?7<-99:mb>7", "?0<0:.", "ab", "ab{!1}", "azzzzzzz{ab{+0=0;xc};?0<1:ad{.}}", "xa", ".",
            ".;."};
        for (int i = 0; i < read.length; i++) {
            ScopeWarden x = new ScopeWarden();
            Due.take(x, 0, "a=" + read[i]);
            Due.is("spell of " + read[i], x.spell(0), due[i].length());
            Due.is("a closer " + read[i], Due.paper(x), due[i]);
            Due.task(x, 0, 0, "(;" + read[i] + ";)");
            Due.is("spellTask of " + read[i], x.spellTask(0), due[i].length() + 4);
            Due.is("steps " + read[i], Due.paper(x), "(;" + due[i] + ";)");
        }
    }

    private static void thePaper() {
        says("THE PAPER holds the latest (nothing at first).");
        ScopeWarden x = new ScopeWarden();
        Due.is("told(9) at first", x.told(9), 0);
        Due.is("paper(0) at first", x.paper(0), NONE);
        Due.take(x, 0, "a=+0=00012");
        Due.take(x, 0, "b");
        Due.task(x, 0, 0, "!1");
        Due.is("nothing is written by a text that is read", x.told(9), 0);
        Due.is("spell(0)", x.spell(0), 5);
        Due.is("told(9)", x.told(9), 5);
        Due.is("spellTask(0)", x.spellTask(0), 2);
        Due.is("the latest", Due.paper(x), "!1");
        Due.is("a place of the one before", x.paper(2), NONE);
        Due.is("spell of none stays it", x.spell(2), NONE);
        Due.is("spellTask of none stays it", x.spellTask(1), NONE);
        Due.is("the latest", Due.paper(x), "!1");
        Due.is("spell(1), without a closer", x.spell(1), 0);
        Due.is("the latest", Due.paper(x), "");
    }

    private static void plan() {
        says("PLAN of a SCOPE: the numbers of THINGS in the order in which they would be CLOSED, were it SHUT,");
        ScopeWarden x = new ScopeWarden();
        Due.is("of an empty one", x.plan(0, -1), 0);
        x.open(0);
        Due.is("of one with an empty one", x.plan(0, -1), 0);
        Due.take(x, 1, "a");
        Due.take(x, 0, "b");
        x.open(1);
        Due.take(x, 2, "c");
        Due.take(x, 1, "d");
        x.open(0);
        Due.is("of all", Due.plan(x, 0), "1 3 2 0");
        Due.is("of one below", Due.plan(x, 1), "3 2 0");
        Due.is("of the innermost", Due.plan(x, 2), "2");
        Due.is("of an empty one beside", Due.plan(x, 3), "");
        x.move(0, 1);
        Due.is("behind a move", Due.plan(x, 0), "1 0 3 2");
        x.close(3);
        Due.is("behind a close", Due.plan(x, 0), "1 0 2");
        x.shut(2);
        Due.is("of a SHUT one", Due.plan(x, 2), "");
        Due.is("of one with a SHUT one", Due.plan(x, 0), "1 0");
        x.shut(0);
        Due.is("that is how they are closed", Due.log(x), "3 2 1 0");
        ScopeWarden y = new ScopeWarden();
        StringBuilder all = new StringBuilder();
        for (int n = 0; n < 90; n++) {
            y.open(n < 59 ? n : 0);
            Due.take(y, n < 60 ? n : 59, "t" + (char) ('a' + n / 26) + (char) ('a' + n % 26));
        }
        for (int n = 89; n >= 60; n--) {
            all.append(n).append(' ');
        }
        // each scope but the last has its thing behind the one below it
        all.append(59);
        StringBuilder below = new StringBuilder();
        for (int n = 0; n < 59; n++) {
            below.append(n).append(' ');
        }
        Due.is("of as many as there can be", y.plan(0, -1), 90);
        Due.is("of as many as there can be", Due.plan(y, 0), below.toString() + all);
    }

    private static void planOfWhatClosersWouldDo() {
        says("and no CLOSER did anything.");
        ScopeWarden x = new ScopeWarden();
        x.open(0);
        x.open(0);
        Due.take(x, 1, "a");
        Due.take(x, 1, "b=!1");
        Due.take(x, 1, "c=xa;mb>2;aq");
        Due.is("plan", Due.plan(x, 1), "2 1 0");
        Due.is("what would be closed", x.would(1, 3), 2);
    }

    private static void rows() {
        says("ROWS 0 .. 3 hold nothing (at first) or a row of 0 .. 40 ints.");
        ScopeWarden x = new ScopeWarden();
        for (int r = 0; r <= 3; r++) {
            Due.is("nothing at first", x.set(r, 0, 1), -11);
            Due.is("a row of 0", x.row(r, 0), 1);
            Due.is("no place in it", x.set(r, 0, 1), -13);
            Due.is("a row of 1", x.row(r, 1), 1);
            Due.is("its place", x.set(r, 0, 1), 1);
            Due.is("and no other", x.set(r, 1, 1), -13);
            Due.is("a row of 40", x.row(r, 40), 1);
            Due.is("its last place", x.set(r, 39, Integer.MIN_VALUE), 1);
            Due.is("and none behind it", x.set(r, 40, 1), -13);
            Due.is("an int", x.get(r, 39), Integer.MIN_VALUE);
            int row = r;
            Due.refused("a row of 41", x, ScopeWarden.BAD, () -> x.row(row, 41));
        }
        Due.refused("row(-1, 1)", x, NONE, () -> x.row(-1, 1));
        Due.refused("row(4, 1)", x, NONE, () -> x.row(4, 1));
    }

    private static void noSuchPlaces() {
        says("NOTHING (-11): there is none; BEYOND (-13): no such place; BELOW (-14): a size below 0.");
        ScopeWarden x = logged(1);
        Due.refused("set in nothing", x, -11, () -> x.set(0, 0, 1));
        Due.refused("lay into nothing", x, -11, () -> x.lay(0, 0));
        Due.refused("judge by nothing", x, -11, () -> x.judge(0, 0));
        Due.refused("copy from nothing to nothing", x, -11, () -> x.copy(0, 0, 0, 0, 0));
        Due.is("get from nothing", x.get(0, 0), ScopeWarden.NO);
        Due.refused("row of -1", x, -14, () -> x.row(0, -1));
        Due.is("row of 2", x.row(0, 2), 1);
        Due.refused("row of -1, when there is one", x, -14, () -> x.row(0, -1));
        Due.refused("set one ahead of the first", x, -13, () -> x.set(0, -1, 1));
        Due.refused("set one behind the last", x, -13, () -> x.set(0, 2, 1));
        Due.refused("lay one ahead of the first", x, -13, () -> x.lay(0, -1));
        Due.refused("lay one behind the last", x, -13, () -> x.lay(0, 2));
        Due.refused("copy one behind the last", x, -13, () -> x.copy(0, 2, 0, 0, 1));
    }

    private static void laid() {
        says("LAID into a ROW from a place on: THE LOG, until a place isn't there.");
        ScopeWarden x = logged(4);
        x.row(0, 5);
        for (int i = 0; i < 5; i++) {
            x.set(0, i, 9);
        }
        Due.is("the first place with which all fit", x.lay(0, 1), 4);
        Due.is("it", row(x, 0), "9 0 1 2 3");
        Due.is("one behind it", x.lay(0, 2), -13);
        Due.is("it", row(x, 0), "9 0 0 1 2");
        Due.is("the last place", x.lay(0, 4), -13);
        Due.is("it", row(x, 0), "9 0 0 1 0");
        Due.refused("one behind the last", x, -13, () -> x.lay(0, 5));
        Due.refused("one ahead of the first", x, -13, () -> x.lay(0, -1));
        Due.is("the first place", x.lay(0, 0), 4);
        Due.is("it", row(x, 0), "0 1 2 3 0");
        x.row(1, 4);
        Due.is("a row of as many", x.lay(1, 0), 4);
        x.row(1, 3);
        Due.is("a row of one less", x.lay(1, 0), -13);
        Due.is("it", row(x, 1), "0 1 2");
        x.row(1, 0);
        Due.is("a row of none", x.lay(1, 0), -13);
        ScopeWarden y = logged(90);
        y.row(0, 40);
        Due.is("the longest log into the longest row", y.lay(0, 0), -13);
        Due.is("its last place", y.get(0, 39), 39);
    }

    private static void judged() {
        says("JUDGED: the first number of THE LOG that is not what the ROW has there, from a place on; -5: none; 200 and "
                + "how many were looked at, if the row ends ahead of that (or the place is below 0).");
        ScopeWarden x = logged(3);
        x.row(0, 4);
        x.lay(0, 1);
        Due.is("none", x.judge(0, 1), -5);
        Due.is("not the first", x.judge(0, 0), 1);
        x.set(0, 3, 7);
        Due.is("not the last", x.judge(0, 1), 2);
        x.set(0, 1, 7);
        Due.is("the first of two", x.judge(0, 1), 0);
        x.row(1, 2);
        Due.is("a row that ends", x.judge(1, 1), 201);
        x.set(1, 1, 1);
        Due.is("one that ends one later", x.judge(1, 0), 202);
        x.set(1, 1, 5);
        Due.is("one that has another ahead of its end", x.judge(1, 0), 1);
        Due.is("from its end", x.judge(1, 2), 200);
        Due.is("from beyond it", x.judge(1, 3), 200);
        Due.is("from below 0", x.judge(1, -1), 200);
        x.row(1, 0);
        Due.is("a row of none", x.judge(1, 0), 200);
        ScopeWarden y = logged(90);
        y.row(0, 40);
        y.lay(0, 0);
        Due.is("the longest log", y.judge(0, 0), 240);
        y.set(0, 39, 0);
        Due.is("and another at the end", y.judge(0, 0), 39);
    }

    private static void theImage() {
        says("THE IMAGE: all but");
        ScopeWarden x = new ScopeWarden();
        x.open(0);
        Due.take(x, 1, "a=!3");
        Due.take(x, 1, "b=aq;xb");
        Due.take(x, 0, "c=!8");
        Due.task(x, 0, 5, "(;ad{!1};xd;.;+0=1;.;);k1");
        Due.task(x, 1, 5, ".;.;.");
        Due.task(x, 0, -9, ".;.");
        x.cancel(2);
        x.run(2);
        x.count(7, 70);
        x.close(2);
        String then = Due.world(x);
        Due.is("image", x.image(), 2);
        x.move(0, 0);
        Due.rename(x, 1, "bb");
        x.count(7, 1);
        x.cancel(1);
        x.rank(0, -5);
        x.run(1);
        x.open(1);
        Due.task(x, 0, 0, ".");
        Due.take(x, 0, "e");
        x.close(1);
        x.shut(0);
        x.run(100);
        Due.is("undo", x.undo(), 2);
        Due.is("all is as it was", Due.world(x), then);
        Due.is("one that was asked for", x.of(2, 6), 1);
        x.run(100);
        Due.is("it is CANCELLED", x.of(2, 0), 3);
        x.shut(0);
        Due.is("undo once more", x.undo(), 2);
        Due.is("all is as it was", Due.world(x), then);
        Due.is("numbers go on from there", Due.take(x, 0, "e"), 4);
        Due.is("numbers go on from there", x.open(0), 6);
        Due.is("numbers go on from there", Due.task(x, 0, 0, "."), 3);
    }

    private static void theImageAndWhatStays() {
        says("THE TAPE, THE PAPER and ROWS, which stay by undo() (FAULTS of the latest call are in it, and laid back).");
        ScopeWarden x = new ScopeWarden();
        Due.take(x, 0, "a=!3");
        Due.take(x, 0, "b=!4;.");
        x.close(0);
        Due.put(x, "abc");
        x.spell(0);
        x.row(0, 2);
        x.image();
        x.close(1);
        Due.is("faults of the latest call", Due.faults(x, -1), "4:1");
        Due.put(x, "wxyz");
        x.spell(1);
        x.set(0, 1, 5);
        x.row(1, 0);
        Due.is("undo", x.undo(), 1);
        Due.is("faults of the latest call are laid back", Due.faults(x, -1), "3:0");
        Due.is("the tape stays", x.told(8), 4);
        Due.is("the paper stays", Due.paper(x), "!4;.");
        Due.is("rows stay", row(x, 0), "0 5");
        Due.is("rows stay", x.set(1, 0, 0), -13);
        Due.is("what the tape has", x.rename(1), 4);
        Due.is("what the tape had", Due.name(x, 1), "wxyz");
        ScopeWarden y = new ScopeWarden();
        Due.refused("undo without one", y, STATE, y::undo);
        y.image();
        Due.take(y, 0, "a=!3");
        y.close(0);
        Due.is("undo to the first", y.undo(), 0);
        Due.is("no faults are laid back", y.faults(-1), 0);
    }
}
