/** What the tests share: the count of answers that are not as due, and calls that many of them make. */
final class Due {
    private static int looked;
    private static int wrong;
    /** The words that the tests are of. */
    private static String about = "";

    private Due() {
    }

    static void is(String call, long got, long want) {
        looked++;
        if (got != want) {
            told(call + " answered " + got + ", due is " + want);
        }
    }

    static void is(String call, String got, String want) {
        looked++;
        if (!got.equals(want)) {
            told(call + " answered <" + got + ">, due is <" + want + ">");
        }
    }

    static void isTrue(String what, boolean holds) {
        looked++;
        if (!holds) {
            told(what + " does not hold");
        }
    }

    /** From here on the tests are of these words. */
    static void about(String words) {
        about = words + ": ";
    }

    private static void told(String what) {
        wrong++;
        if (wrong <= 40) {
            System.out.println(about + what);
        }
    }

    static int wrong() {
        return wrong;
    }

    /** Ends the test: with exit code 1 if an answer was not as due. */
    static void end() {
        System.out.println(looked + " answers looked at, " + wrong + " not as due");
        if (wrong != 0) {
            System.exit(1);
        }
    }

    /** THE TAPE becomes a text. */
    static void put(ScopeWarden x, String text) {
        x.clear();
        for (int i = 0; i < text.length(); i++) {
            x.feed(text.charAt(i));
        }
    }

    static int take(ScopeWarden x, int scope, String text) {
        put(x, text);
        return x.take(scope);
    }

    static int task(ScopeWarden x, int parent, int priority, String text) {
        put(x, text);
        return x.task(parent, priority);
    }

    static int rename(ScopeWarden x, int thing, String text) {
        put(x, text);
        return x.rename(thing);
    }

    static int find(ScopeWarden x, String text) {
        put(x, text);
        return x.find();
    }

    static int from(ScopeWarden x, String text) {
        put(x, text);
        return x.from();
    }

    static String paper(ScopeWarden x) {
        StringBuilder b = new StringBuilder();
        for (int i = 0; x.paper(i) >= 0; i++) {
            b.append((char) x.paper(i));
        }
        return b.toString();
    }

    static String name(ScopeWarden x, int thing) {
        StringBuilder b = new StringBuilder();
        for (int i = 0; i < x.name(thing, -1); i++) {
            b.append((char) x.name(thing, i));
        }
        return b.toString();
    }

    static String closer(ScopeWarden x, int thing) {
        x.spell(thing);
        return paper(x);
    }

    static String steps(ScopeWarden x, int task) {
        x.spellTask(task);
        return paper(x);
    }

    static String entries(ScopeWarden x, int scope) {
        StringBuilder b = new StringBuilder();
        for (int i = 0; x.entry(scope, i) >= 0; i++) {
            b.append(i == 0 ? "" : " ").append(x.entry(scope, i));
        }
        return b.toString();
    }

    static String plan(ScopeWarden x, int scope) {
        StringBuilder b = new StringBuilder();
        for (int i = 0; i < x.plan(scope, -1); i++) {
            b.append(i == 0 ? "" : " ").append(x.plan(scope, i));
        }
        return b.toString();
    }

    static String log(ScopeWarden x) {
        StringBuilder b = new StringBuilder();
        for (int i = 0; x.log(i) >= 0; i++) {
            b.append(i == 0 ? "" : " ").append(x.log(i));
        }
        return b.toString();
    }

    /** The faults of the latest call (-1) or of a task, each as FAULT:THING. */
    static String faults(ScopeWarden x, int task) {
        StringBuilder b = new StringBuilder();
        for (int i = 0; i < x.faults(task); i++) {
            b.append(i == 0 ? "" : " ").append(x.fault(task, i, 0)).append(':').append(x.fault(task, i, 1));
        }
        return b.toString();
    }

    /** All that can be asked of an object, less what only a text on THE TAPE would tell. */
    static String all(ScopeWarden x) {
        StringBuilder b = new StringBuilder(world(x));
        b.append(" tape ").append(x.told(8)).append(" paper ").append(paper(x));
        for (int r = 0; r < 4; r++) {
            b.append(" row").append(r).append(x.set(r, 40, 0));
            for (int i = 0; i < 40 && x.get(r, i) != ScopeWarden.NO; i++) {
                b.append(' ').append(x.get(r, i));
            }
        }
        return b.toString();
    }

    /** All that THE IMAGE holds. */
    static String world(ScopeWarden x) {
        StringBuilder b = new StringBuilder();
        for (int what = 0; what <= 7; what++) {
            b.append(x.told(what)).append(' ');
        }
        for (int s = 0; s < x.told(0); s++) {
            b.append("\nscope ").append(s);
            for (int what = 0; what <= 5; what++) {
                b.append(' ').append(x.scope(s, what));
            }
            b.append(" entries ").append(entries(x, s)).append(" plan ").append(plan(x, s));
            b.append(" youngest ").append(x.youngest(s));
            for (int what = 0; what <= 5; what++) {
                b.append(' ').append(x.would(s, what));
            }
        }
        for (int t = 0; t < x.told(2); t++) {
            b.append("\nthing ").append(t).append(' ').append(name(x, t));
            for (int what = 0; what <= 3; what++) {
                b.append(' ').append(x.thing(t, what));
            }
        }
        for (int t = 0; t < x.told(4); t++) {
            b.append("\ntask ").append(t);
            for (int what = 0; what <= 7; what++) {
                b.append(' ').append(x.of(t, what));
            }
            b.append(" faults ").append(faults(x, t));
        }
        b.append("\ncounters");
        for (int k = 0; k < 8; k++) {
            b.append(' ').append(x.counter(k));
        }
        b.append(" log ").append(log(x)).append(" call ").append(faults(x, -1)).append(" by name");
        for (int i = 0; x.byName(i) >= 0; i++) {
            b.append(' ').append(x.byName(i));
        }
        for (int i = 0; x.ready(i) >= 0; i++) {
            b.append(" ready ").append(x.ready(i));
        }
        return b.toString();
    }

    /** A call that is refused: its answer, and that it changed nothing. */
    interface Call {
        int answer();
    }

    static void refused(String name, ScopeWarden x, int want, Call call) {
        String before = all(x);
        is(name, call.answer(), want);
        is(name + " left all as it was", all(x), before);
    }
}
