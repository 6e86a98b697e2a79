import java.util.ArrayList;
import java.util.List;

/** An object's 512th call, of every method, is answered as the first ones are; and what 512 calls can bring. */
public final class LastCallTest {
    private static final int MOST_CALLS = 512;

    /** A call, and its answer. */
    interface Call {
        long on(ScopeWarden x);
    }

    public static void main(String[] args) {
        Doc.says("What it is", "An object is used for at most 512 calls after it has been made; what later calls answer is "
                + "free.");
        texts();
        scopesAndThings();
        askedOfThings();
        thoughts();
        tasks();
        rows();
        images();
        manyThings();
        manyTurns();
        manyThoughts();
        Due.end();
    }

    private static Call[] fed(String text, Call... behind) {
        List<Call> all = new ArrayList<>();
        for (char c : text.toCharArray()) {
            all.add(x -> x.feed(c));
        }
        for (Call call : behind) {
            all.add(call);
        }
        return all.toArray(new Call[0]);
    }

    private static Call[] all(Call[]... runs) {
        List<Call> all = new ArrayList<>();
        for (Call[] run : runs) {
            for (Call call : run) {
                all.add(call);
            }
        }
        return all.toArray(new Call[0]);
    }

    private static Call[] calls(Call... calls) {
        return calls;
    }

    /** What a thing and a task in the root, the log, a row and an image bring; then much that changes nothing. */
    private static Call[] start() {
        return all(fed("a=!5", x -> x.take(0)), fed("b=+1=2", x -> x.take(0)), fed("+0=1;.;!9", x -> x.task(0, 3)),
                calls(x -> x.open(0), x -> x.close(0), x -> x.row(0, 3), x -> x.set(0, 2, 7)));
    }

    /** The last call is the 512th of an object. */
    private static void last(String name, long due, Call last, Call... ahead) {
        ScopeWarden x = new ScopeWarden();
        for (Call call : ahead) {
            call.on(x);
        }
        Due.isTrue(name + " has room for what is ahead", ahead.length < MOST_CALLS);
        for (int i = ahead.length; i < MOST_CALLS - 1; i++) {
            fill(x, i);
        }
        Due.is(name + " as the 512th call", last.on(x), due);
    }

    private static void fill(ScopeWarden x, int i) {
        switch (i % 5) {
            case 0: x.would(0, i % 6); break;
            case 1: x.trial(0, 100, i % 6); break;
            case 2: x.plan(0, -1); break;
            case 3: x.ready(0); break;
            default: x.byName(0); break;
        }
    }

    private static void texts() {
        Call[] start = start();
        last("feed", 3, x -> x.feed('z'), all(start, fed("xy")));
        last("clear", 2, x -> x.clear(), all(start, fed("xy")));
        last("spell", 4, x -> x.spell(1), start);
        last("spellTask", 9, x -> x.spellTask(0), start);
        last("paper", '9', x -> x.paper(8), all(start, calls(x -> x.spellTask(0))));
    }

    private static void scopesAndThings() {
        Call[] start = start();
        last("open", 3, x -> x.open(2), start);
        last("take", 2, x -> x.take(2), all(start, fed("c=ad{xc}")));
        last("take with a fault", -103, x -> x.take(2), all(start, fed("c=!0")));
        last("close", 0, x -> x.close(1), start);
        last("shut", 0, x -> x.shut(0), start);
        last("move", 1, x -> x.move(1, 2), start);
        last("count", 6, x -> x.count(7, 6), start);
        last("rename", 7, x -> x.rename(1), all(start, fed("qrstuvw")));
    }

    private static void askedOfThings() {
        Call[] start = start();
        last("counter", 2, x -> x.counter(1), all(start, calls(x -> x.close(1))));
        last("scope", 3, x -> x.scope(0, 2), start);
        last("below", 1, x -> x.below(2, 0), start);
        last("youngest", 1, x -> x.youngest(0), start);
        last("entry", 102, x -> x.entry(0, 2), start);
        last("thing", 0, x -> x.thing(0, 2), start);
        last("name", 'b', x -> x.name(1, 0), start);
        last("find", 1, x -> x.find(), all(start, fed("b")));
        last("from", 1, x -> x.from(), all(start, fed("aa")));
        last("byName", 1, x -> x.byName(0), start);
        last("log", 0, x -> x.log(0), start);
        last("fault", 5, x -> x.fault(-1, 0, 0), start);
        last("faults", 1, x -> x.faults(-1), start);
    }

    private static void thoughts() {
        Call[] start = start();
        last("plan", 1, x -> x.plan(0, 0), start);
        last("would", 1, x -> x.would(0, 3), start);
        last("trial", 9, x -> x.trial(0, 2, 1), start);
    }

    private static void tasks() {
        Call[] start = start();
        last("task", 1, x -> x.task(2, -99), all(start, fed("(;.;)")));
        last("tick", 0, x -> x.tick(), start);
        last("run", 2, x -> x.run(100), start);
        last("cancel", 1, x -> x.cancel(0), start);
        last("rank", 103, x -> x.rank(0, 99), start);
        last("of", 2, x -> x.of(0, 0), all(start, calls(x -> x.run(2))));
        last("ready", 0, x -> x.ready(0), start);
        last("told", 3, x -> x.told(0), start);
    }

    private static void rows() {
        Call[] start = start();
        last("row", 1, x -> x.row(3, 40), start);
        last("set", 1, x -> x.set(0, 1, 4), start);
        last("get", 7, x -> x.get(0, 2), start);
        last("copy", 2, x -> x.copy(0, 1, 0, 0, 2), start);
        last("lay", 1, x -> x.lay(0, 1), start);
        last("judge", 200, x -> x.judge(0, 3), start);
    }

    private static void images() {
        Call[] start = start();
        last("image", 1, x -> x.image(), start);
        last("undo", 1, x -> x.undo(), all(start, calls(x -> x.image(), x -> x.shut(0))));
        last("undo, refused", ScopeWarden.STATE, x -> x.undo(), start);
    }

    /** A step a of each of so many names, from the n-th on: 26 of one letter, others of two. */
    private static String takes(int from, int many) {
        StringBuilder b = new StringBuilder();
        for (int n = from; n < from + many; n++) {
            b.append(n == from ? "a" : ";a");
            if (n >= 26) {
                b.append((char) ('a' + n / 26 - 1));
            }
            b.append((char) ('a' + n % 26));
        }
        return b.toString();
    }

    /** 90 things, all closed, 60 scopes, and a full log, in 512 calls. */
    private static void manyThings() {
        List<Call> all = new ArrayList<>();
        int[] from = {0, 30, 60};
        for (int first : from) {
            for (Call call : fed(takes(first, 30), x -> x.task(0, 0))) {
                all.add(call);
            }
        }
        for (int i = 0; i < 56; i++) {
            all.add(x -> x.open(0));
        }
        for (int i = 0; i < 3; i++) {
            all.add(x -> x.tick());
        }
        Call[] ahead = all.toArray(new Call[0]);
        last("log", 60, x -> x.log(89), ahead);
        last("log", ScopeWarden.NONE, x -> x.log(90), ahead);
        last("told(0)", 60, x -> x.told(0), ahead);
        last("open", ScopeWarden.FULL, x -> x.open(0), ahead);
        last("take", ScopeWarden.FULL, x -> x.take(0), all(ahead, fed("a")));
    }

    /** As many turns as four tasks of 120 bytes can have. */
    private static void manyTurns() {
        StringBuilder points = new StringBuilder();
        for (int i = 0; i < 60; i++) {
            points.append(i == 0 ? "." : ";.");
        }
        List<Call> all = new ArrayList<>();
        for (int i = 0; i < 4; i++) {
            for (Call call : fed(points.toString(), x -> x.task(0, 0))) {
                all.add(call);
            }
        }
        for (int i = 0; i < 3; i++) {
            all.add(x -> x.run(100));
        }
        Call[] ahead = all.toArray(new Call[0]);
        last("told(6)", 240, x -> x.told(6), ahead);
        last("of(3, 2)", 60, x -> x.of(3, 2), ahead);
        last("tick", -5, x -> x.tick(), ahead);
    }

    /** An image, and what is done and undone again and again. */
    private static void manyThoughts() {
        List<Call> all = new ArrayList<>();
        for (Call call : fed("a=!1;xb", x -> x.take(0))) {
            all.add(call);
        }
        for (Call call : fed("xa;.;!2", x -> x.task(0, 0))) {
            all.add(call);
        }
        all.add(x -> x.image());
        while (all.size() < MOST_CALLS - 3) {
            all.add(x -> x.run(100));
            all.add(x -> x.shut(0));
            all.add(x -> x.undo());
        }
        Call[] ahead = all.subList(0, MOST_CALLS - 3).toArray(new Call[0]);
        last("would", 1, x -> x.would(0, 0), all(ahead, calls(x -> x.undo())));
        last("trial", 2, x -> x.trial(0, 100, 0), all(ahead, calls(x -> x.undo())));
        last("undo", 1, x -> x.undo(), ahead);
    }
}
