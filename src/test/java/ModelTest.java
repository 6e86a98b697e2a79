import java.util.ArrayList;
import java.util.List;
import java.util.Random;
import java.util.TreeMap;
import java.util.regex.Matcher;
import java.util.regex.Pattern;

/**
 * Long runs of calls, drawn by fixed seeds, on a ScopeWarden and on a second keeper that is written
 * another way: by recursion over objects, with an image that is the run of calls so far, done again,
 * and with texts that are looked at by regular expressions. Their answers must be the same.
 */
public final class ModelTest {
    public static void main(String[] args) {
        int runs = args.length > 0 ? Integer.parseInt(args[0]) : 700;
        int first = args.length > 1 ? Integer.parseInt(args[1]) : 1;
        for (int seed = first; seed < first + runs && Due.wrong() == 0; seed++) {
            new Fuzz(seed).go();
        }
        texts();
        Due.end();
    }

    /** Every text of few bytes out of those that matter, read by both. */
    private static void texts() {
        texts("+0=-a{};(", 5);
        texts("!091;", 5);
        texts("(;).", 8);
        texts("?01<:.-", 6);
        texts("mxa>12k", 5);
        texts("a{;}", 9);
    }

    private static void texts(String signs, int most) {
        for (int length = 0; length <= most; length++) {
            int many = 1;
            for (int i = 0; i < length; i++) {
                many *= signs.length();
            }
            for (int n = 0; n < many; n++) {
                StringBuilder b = new StringBuilder();
                for (int i = 0, left = n; i < length; i++, left /= signs.length()) {
                    b.append(signs.charAt(left % signs.length()));
                }
                sameFault(b.toString());
            }
        }
    }

    private static void sameFault(String text) {
        ScopeWarden x = new ScopeWarden();
        int fault = Texts.fault(text, Texts.TASK, true);
        Due.is("task with " + text, Due.task(x, 0, 0, text), fault < 0 ? 0 : -100 - fault);
        if (fault < 0) {
            Due.is("spelled " + text, Due.steps(x, 0), Texts.spelled(text));
        }
    }

    // ---- texts, by regular expressions

    static final class Texts {
        static final Pattern TASK, THING, NAME;

        static {
            String name = "[a-z]{1,7}";
            String deepest = steps(plain(""), false);
            String middle = steps(plain("(\\{" + deepest + "\\})?"), false);
            String outer = steps(plain("(\\{" + middle + "\\})?"), false);
            TASK = Pattern.compile(steps(plain("(\\{" + outer + "\\})?"), true));
            THING = Pattern.compile(name + "(=" + outer + ")?");
            NAME = Pattern.compile(name);
        }

        private static String plain(String closer) {
            return "(\\+[0-7]=-?[0-9]{1,5}|![0-9]{1,2}|a[a-z]{1,7}" + closer
                    + "|x[a-z]{1,7}|m[a-z]{1,7}>[0-9]{1,2}|k[0-9]|\\.)";
        }

        private static String steps(String plain, boolean task) {
            String step = "(" + plain + "|\\?[0-7]<-?[0-9]{1,5}:" + plain + (task ? "|\\(|\\))" : ")");
            return step + "(;" + step + ")*";
        }

        /** The place of the first fault; -1: none. */
        static int fault(String text, Pattern form, boolean task) {
            int fault = -1;
            for (int length = 1; length <= text.length() && fault < 0; length++) {
                Matcher m = form.matcher(text.substring(0, length));
                if (!m.matches() && !m.hitEnd()) {
                    fault = length - 1;
                }
            }
            if (fault < 0 && !form.matcher(text).matches()) {
                fault = text.length();
            }
            Matcher zero = Pattern.compile("!(0[0-9]?)").matcher(text);
            while (zero.find()) {
                boolean isNone = Integer.parseInt(zero.group(1)) == 0;
                if (isNone && (fault < 0 || zero.start(1) < fault)) {
                    fault = zero.start(1);
                }
            }
            int opened = 0;
            for (int i = 0; task && i < text.length() && (fault < 0 || i < fault); i++) {
                opened += text.charAt(i) == '(' ? 1 : text.charAt(i) == ')' ? -1 : 0;
                if (opened < 0) {
                    return i;
                }
            }
            return fault < 0 && opened > 0 ? text.length() : fault;
        }

        /** A text without a fault, with its numbers as short as can be. */
        static String spelled(String text) {
            Matcher m = Pattern.compile("-?[0-9]+").matcher(text);
            StringBuilder b = new StringBuilder();
            while (m.find()) {
                m.appendReplacement(b, "" + Integer.parseInt(m.group()));
            }
            return m.appendTail(b).toString();
        }

        /** The steps of a text without a fault: parted by each ; that stands in no {..}. */
        static List<String> parts(String text) {
            List<String> parts = new ArrayList<>();
            int depth = 0;
            int begin = 0;
            for (int i = 0; i <= text.length(); i++) {
                char c = i < text.length() ? text.charAt(i) : ';';
                depth += c == '{' ? 1 : c == '}' ? -1 : 0;
                if (c == ';' && depth == 0) {
                    parts.add(text.substring(begin, i));
                    begin = i + 1;
                }
            }
            return parts;
        }
    }

    // ---- the second keeper

    static final class Thing {
        int n, place = -5;
        String name, closer, state = "HELD";
        Scope owner;
    }

    static final class Scope {
        int n, task = -5;
        Scope parent;
        String state = "OPEN";
        final List<Object> entries = new ArrayList<>();
    }

    static final class Task {
        int n, priority, turns, latest, done;
        boolean asked;
        String steps;
        int state;
        int[] own;
        final List<int[]> gathered = new ArrayList<>();
        final List<Scope> scopes = new ArrayList<>();

        List<int[]> faults() {
            List<int[]> all = new ArrayList<>(gathered);
            if (own != null) {
                all.add(0, own);
            }
            return all;
        }
    }

    static final class World {
        final List<Thing> things = new ArrayList<>();
        final List<Scope> scopes = new ArrayList<>();
        final List<Task> tasks = new ArrayList<>();
        final int[] counters = new int[8];
        final List<Integer> log = new ArrayList<>();
        List<int[]> call = new ArrayList<>();
        List<int[]> into = call;
        int turns;

        World() {
            scopes.add(new Scope());
        }

        Thing held(String name) {
            for (Thing t : things) {
                if (t.state.equals("HELD") && t.name.equals(name)) {
                    return t;
                }
            }
            return null;
        }

        TreeMap<String, Thing> held() {
            TreeMap<String, Thing> all = new TreeMap<>();
            for (Thing t : things) {
                if (t.state.equals("HELD")) {
                    all.put(t.name, t);
                }
            }
            return all;
        }

        Thing take(Scope scope, String name, String closer) {
            Thing t = new Thing();
            t.n = things.size();
            t.name = name;
            t.closer = closer;
            t.owner = scope;
            things.add(t);
            scope.entries.add(t);
            return t;
        }

        Scope open(Scope parent, int task) {
            Scope s = new Scope();
            s.n = scopes.size();
            s.parent = parent;
            s.task = task;
            scopes.add(s);
            parent.entries.add(s);
            return s;
        }

        void move(Thing t, Scope to) {
            t.owner.entries.remove(t);
            t.owner = to;
            to.entries.add(t);
        }

        void close(Thing t) {
            t.state = "CLOSING";
            if (t.closer != null) {
                for (String step : Texts.parts(t.closer)) {
                    int fault = step(step, t.owner, null);
                    if (fault != 0) {
                        into.add(new int[] {fault, t.n});
                        break;
                    }
                }
            }
            t.state = "CLOSED";
            t.owner.entries.remove(t);
            t.place = log.size();
            log.add(t.n);
        }

        void shut(Scope s) {
            if (!s.state.equals("OPEN")) {
                return;
            }
            s.state = "SHUTTING";
            boolean found = true;
            while (found) {
                found = false;
                for (int i = s.entries.size() - 1; i >= 0 && !found; i--) {
                    Object e = s.entries.get(i);
                    if (e instanceof Thing && ((Thing) e).state.equals("HELD")) {
                        close((Thing) e);
                        found = true;
                    } else if (e instanceof Scope && ((Scope) e).state.equals("OPEN")) {
                        shut((Scope) e);
                        found = true;
                    }
                }
            }
            s.state = s.parent == null ? "OPEN" : "SHUT";
            if (s.parent != null) {
                s.parent.entries.remove(s);
            }
        }

        void plan(Scope s, List<Integer> into) {
            for (int i = s.entries.size() - 1; i >= 0; i--) {
                Object e = s.entries.get(i);
                if (e instanceof Thing) {
                    into.add(((Thing) e).n);
                } else {
                    plan((Scope) e, into);
                }
            }
        }

        int step(String step, Scope in, Task by) {
            String rest = step.substring(1);
            switch (step.charAt(0)) {
                case '+':
                    counters[rest.charAt(0) - '0'] += Integer.parseInt(rest.substring(2));
                    return 0;
                case '!': return Integer.parseInt(rest);
                case '?': {
                    int colon = rest.indexOf(':');
                    boolean below = counters[rest.charAt(0) - '0'] < Integer.parseInt(rest.substring(2, colon));
                    return below ? step(rest.substring(colon + 1), in, null) : 0;
                }
                case 'a': {
                    int brace = rest.indexOf('{');
                    String name = brace < 0 ? rest : rest.substring(0, brace);
                    if (!in.state.equals("OPEN")) {
                        return 101;
                    }
                    if (held(name) != null) {
                        return 102;
                    }
                    if (things.size() == 90) {
                        return 103;
                    }
                    take(in, name, brace < 0 ? null : rest.substring(brace + 1, rest.length() - 1));
                    return 0;
                }
                case 'x':
                    if (held(rest) == null) {
                        return 104;
                    }
                    close(held(rest));
                    return 0;
                case 'm': {
                    String[] both = rest.split(">");
                    int to = Integer.parseInt(both[1]);
                    if (held(both[0]) == null) {
                        return 104;
                    }
                    if (to >= scopes.size() || !scopes.get(to).state.equals("OPEN")) {
                        return 105;
                    }
                    move(held(both[0]), scopes.get(to));
                    return 0;
                }
                case 'k': {
                    int n = rest.charAt(0) - '0';
                    if (n >= tasks.size() || tasks.get(n).state != 0) {
                        return 106;
                    }
                    tasks.get(n).asked = true;
                    return 0;
                }
                case '(':
                    if (scopes.size() == 60) {
                        return 107;
                    }
                    if (!in.state.equals("OPEN")) {
                        return 101;
                    }
                    by.scopes.add(open(in, by.n));
                    return 0;
                case ')':
                    shut(by.scopes.remove(by.scopes.size() - 1));
                    return 0;
                default: return 0;
            }
        }

        void task(Scope parent, int priority, String steps) {
            Task t = new Task();
            t.n = tasks.size();
            t.priority = priority;
            t.steps = steps;
            t.scopes.add(open(parent, t.n));
            tasks.add(t);
        }

        List<Task> queue() {
            List<Task> ready = new ArrayList<>();
            for (Task t : tasks) {
                if (t.state == 0) {
                    ready.add(t);
                }
            }
            ready.sort((a, b) -> a.priority != b.priority ? b.priority - a.priority
                    : a.latest != b.latest ? a.latest - b.latest : a.n - b.n);
            return ready;
        }

        int tick() {
            if (queue().isEmpty()) {
                return -5;
            }
            Task t = queue().get(0);
            t.latest = ++turns;
            t.turns++;
            into = t.gathered;
            turn(t);
            into = call;
            return t.n;
        }

        private void turn(Task t) {
            boolean open = true;
            for (Scope s : t.scopes) {
                open &= s.state.equals("OPEN");
            }
            if (t.asked || !open) {
                over(t, 3);
                return;
            }
            List<String> steps = Texts.parts(t.steps);
            while (t.done < steps.size()) {
                String step = steps.get(t.done);
                int fault = step(step, t.scopes.get(t.scopes.size() - 1), t);
                if (fault != 0) {
                    t.own = new int[] {fault, -1};
                    over(t, 2);
                    return;
                }
                t.done++;
                if (step.equals(".") && t.done < steps.size()) {
                    return;
                }
            }
            over(t, t.gathered.isEmpty() ? 1 : 2);
        }

        private void over(Task t, int state) {
            t.state = state;
            for (int i = t.scopes.size() - 1; i >= 0; i--) {
                shut(t.scopes.get(i));
            }
        }

        int open() {
            int many = 0;
            for (Scope s : scopes) {
                many += s.state.equals("OPEN") ? 1 : 0;
            }
            return many;
        }

        static boolean within(Scope s, Scope other) {
            for (Scope p = s; p != null; p = p.parent) {
                if (p == other) {
                    return true;
                }
            }
            return false;
        }
    }

    /** What changed a world, so that it can be done again. */
    static final class Deed {
        final String call, text;
        final int a, b;

        Deed(String call, int a, int b, String text) {
            this.call = call;
            this.a = a;
            this.b = b;
            this.text = text;
        }

        void doOn(World w) {
            switch (call) {
                case "open": w.open(w.scopes.get(a), -5); break;
                case "take": {
                    int cut = text.indexOf('=');
                    w.take(w.scopes.get(a), cut < 0 ? text : text.substring(0, cut),
                            cut < 0 ? null : text.substring(cut + 1));
                    break;
                }
                case "close": case "shut":
                    w.call = new ArrayList<>();
                    w.into = w.call;
                    if (call.equals("close")) {
                        w.close(w.things.get(a));
                    } else {
                        w.shut(w.scopes.get(a));
                    }
                    break;
                case "move": w.move(w.things.get(a), w.scopes.get(b)); break;
                case "count": w.counters[a] += b; break;
                case "rename": w.things.get(a).name = text; break;
                case "task": w.task(w.scopes.get(a), b, text); break;
                case "tick": w.tick(); break;
                case "cancel": w.tasks.get(a).asked = true; break;
                case "rank": w.tasks.get(a).priority = b; break;
                default: throw new IllegalStateException(call);
            }
        }
    }

    static final class Keeper {
        World w = new World();
        List<Deed> deeds = new ArrayList<>();
        List<Deed> image;
        String tape = "", paper = "";
        final int[][] rows = new int[4][];

        private void deed(String call, int a, int b, String text) {
            Deed d = new Deed(call, a, b, text);
            deeds.add(d);
            d.doOn(w);
        }

        private static World again(List<Deed> deeds) {
            World w = new World();
            for (Deed d : deeds) {
                d.doOn(w);
            }
            return w;
        }

        private String read() {
            String was = tape;
            tape = "";
            return was;
        }

        private Scope scope(int n) {
            return n < 0 || n >= w.scopes.size() ? null : w.scopes.get(n);
        }

        private Thing thing(int n) {
            return n < 0 || n >= w.things.size() ? null : w.things.get(n);
        }

        private Task task(int n) {
            return n < 0 || n >= w.tasks.size() ? null : w.tasks.get(n);
        }

        private static boolean isOpen(Scope s) {
            return s.state.equals("OPEN");
        }

        private static boolean isHeld(Thing t) {
            return t.state.equals("HELD");
        }

        private static <T> T at(List<T> list, int i) {
            return i < 0 || i >= list.size() ? null : list.get(i);
        }

        long answer(String call, int a, int b, int c, int d, int e) {
            switch (call) {
                case "feed":
                    if (a < 1 || a > 127) {
                        return -2;
                    }
                    if (tape.length() == 120) {
                        return -4;
                    }
                    tape += (char) a;
                    return tape.length();
                case "clear": return read().length();
                case "spell":
                    if (thing(a) == null) {
                        return -1;
                    }
                    paper = thing(a).closer == null ? "" : Texts.spelled(thing(a).closer);
                    return paper.length();
                case "spellTask":
                    if (task(a) == null) {
                        return -1;
                    }
                    paper = Texts.spelled(task(a).steps);
                    return paper.length();
                case "paper": return a < 0 || a >= paper.length() ? -1 : paper.charAt(a);
                case "open":
                    if (scope(a) == null) {
                        return -1;
                    }
                    if (!isOpen(scope(a))) {
                        return -3;
                    }
                    if (w.scopes.size() == 60) {
                        return -4;
                    }
                    deed("open", a, 0, "");
                    return w.scopes.size() - 1;
                case "take": return take(a);
                case "close":
                    if (thing(a) == null) {
                        return -1;
                    }
                    if (!isHeld(thing(a))) {
                        return -3;
                    }
                    deed("close", a, 0, "");
                    return w.call.size();
                case "shut":
                    if (scope(a) == null) {
                        return -1;
                    }
                    if (!isOpen(scope(a))) {
                        return -3;
                    }
                    deed("shut", a, 0, "");
                    return w.call.size();
                case "move":
                    if (thing(a) == null || scope(b) == null) {
                        return -1;
                    }
                    if (!isHeld(thing(a)) || !isOpen(scope(b))) {
                        return -3;
                    }
                    deed("move", a, b, "");
                    return scope(b).entries.size();
                case "count":
                    if (a < 0 || a > 7) {
                        return -1;
                    }
                    deed("count", a, b, "");
                    return w.counters[a];
                case "counter": return a < 0 || a > 7 ? Long.MIN_VALUE : w.counters[a];
                default: return answerOnThings(call, a, b, c, d, e);
            }
        }

        private long take(int a) {
            if (scope(a) == null) {
                return -1;
            }
            if (!isOpen(scope(a))) {
                return -3;
            }
            String text = read();
            int fault = Texts.fault(text, Texts.THING, false);
            if (fault >= 0) {
                return -100 - fault;
            }
            if (w.things.size() == 90) {
                return -4;
            }
            if (w.held(text.split("=")[0]) != null) {
                return -3;
            }
            deed("take", a, 0, text);
            return w.things.size() - 1;
        }

        private long answerOnThings(String call, int a, int b, int c, int d, int e) {
            switch (call) {
                case "scope": return scope(a) == null ? -1 : ofScope(scope(a), b);
                case "below":
                    return scope(a) == null || scope(b) == null ? -1 : World.within(scope(a), scope(b)) ? 1 : 0;
                case "youngest": {
                    if (scope(a) == null) {
                        return -1;
                    }
                    int best = -5;
                    for (Thing t : w.held().values()) {
                        best = World.within(t.owner, scope(a)) ? Math.max(best, t.n) : best;
                    }
                    return best;
                }
                case "entry": {
                    Object at = scope(a) == null ? null : at(scope(a).entries, b);
                    return at == null ? -1 : at instanceof Thing ? ((Thing) at).n : 100 + ((Scope) at).n;
                }
                case "thing": return thing(a) == null ? -1 : ofThing(thing(a), b);
                case "name":
                    if (thing(a) == null || b < -1 || b >= thing(a).name.length()) {
                        return -1;
                    }
                    return b == -1 ? thing(a).name.length() : thing(a).name.charAt(b);
                case "find": {
                    Thing t = w.held(read());
                    return t == null ? -5 : t.n;
                }
                case "from": {
                    java.util.Map.Entry<String, Thing> least = w.held().ceilingEntry(read());
                    return least == null ? -5 : least.getValue().n;
                }
                case "rename": {
                    if (thing(a) == null) {
                        return -1;
                    }
                    if (!isHeld(thing(a))) {
                        return -3;
                    }
                    String text = read();
                    int fault = Texts.fault(text, Texts.NAME, false);
                    if (fault >= 0) {
                        return -100 - fault;
                    }
                    if (w.held(text) != null) {
                        return -3;
                    }
                    deed("rename", a, 0, text);
                    return text.length();
                }
                case "byName": {
                    Thing t = at(new ArrayList<>(w.held().values()), a);
                    return t == null ? -1 : t.n;
                }
                case "plan": {
                    if (scope(a) == null) {
                        return -1;
                    }
                    List<Integer> plan = new ArrayList<>();
                    w.plan(scope(a), plan);
                    return b == -1 ? plan.size() : at(plan, b) == null ? -1 : plan.get(b);
                }
                case "would": return would(a, b);
                case "trial": return trial(a, b, c);
                case "log": return at(w.log, a) == null ? -1 : w.log.get(a);
                case "fault": {
                    int[] fault = a != -1 && task(a) == null ? null : at(a == -1 ? w.call : task(a).faults(), b);
                    return fault == null || c < 0 || c > 1 ? -1 : fault[c];
                }
                case "faults":
                    return a == -1 ? w.call.size() : task(a) == null ? -1 : task(a).faults().size();
                default: return answerOnTasks(call, a, b, c, d, e);
            }
        }

        private long ofScope(Scope s, int what) {
            switch (what) {
                case 0: return isOpen(s) ? 0 : 1;
                case 1: return s.parent == null ? -5 : s.parent.n;
                case 2: return s.entries.size();
                case 3: {
                    int many = 0;
                    for (Thing t : w.held().values()) {
                        many += World.within(t.owner, s) ? 1 : 0;
                    }
                    return many;
                }
                case 4: return s.parent == null ? 0 : 1 + ofScope(s.parent, 4);
                case 5: return s.task;
                default: return -1;
            }
        }

        private long ofThing(Thing t, int what) {
            switch (what) {
                case 0: return isHeld(t) ? 0 : 1;
                case 1: return t.owner.n;
                case 2: return t.place;
                case 3: return t.closer == null ? 0 : Texts.parts(t.closer).size();
                default: return -1;
            }
        }

        private static int first(List<int[]> faults, int what) {
            return faults.isEmpty() ? what == 0 ? 0 : -1 : faults.get(0)[what];
        }

        private long would(int a, int what) {
            if (scope(a) == null || what < 0 || what > 5) {
                return -1;
            }
            if (!isOpen(scope(a))) {
                return -3;
            }
            World thought = again(deeds);
            new Deed("shut", a, 0, "").doOn(thought);
            int[] all = {thought.call.size(), first(thought.call, 0), first(thought.call, 1),
                thought.log.size() - w.log.size(), thought.things.size() - w.things.size(), thought.held().size()};
            return all[what];
        }

        private long trial(int a, int n, int what) {
            if (task(a) == null || what < 0 || what > 5) {
                return -1;
            }
            if (n < 0 || n > 100) {
                return -2;
            }
            World thought = again(deeds);
            for (int i = 0; i < n; i++) {
                thought.tick();
            }
            Task t = thought.tasks.get(a);
            int[] all = {t.faults().size(), first(t.faults(), 0), first(t.faults(), 1), t.state, t.turns,
                thought.log.size()};
            return all[what];
        }

        private long answerOnTasks(String call, int a, int b, int c, int d, int e) {
            Task t = task(a);
            switch (call) {
                case "task": {
                    if (scope(a) == null) {
                        return -1;
                    }
                    if (b < -99 || b > 99) {
                        return -2;
                    }
                    if (!isOpen(scope(a))) {
                        return -3;
                    }
                    if (w.tasks.size() == 10 || w.scopes.size() == 60) {
                        return -4;
                    }
                    String text = read();
                    int fault = Texts.fault(text, Texts.TASK, true);
                    if (fault >= 0) {
                        return -100 - fault;
                    }
                    deed("task", a, b, text);
                    return w.tasks.size() - 1;
                }
                case "tick": {
                    int who = w.queue().isEmpty() ? -5 : w.queue().get(0).n;
                    deed("tick", 0, 0, "");
                    return who;
                }
                case "run": {
                    if (a < 0 || a > 100) {
                        return -2;
                    }
                    int many = 0;
                    while (many < a && !w.queue().isEmpty()) {
                        deed("tick", 0, 0, "");
                        many++;
                    }
                    return many;
                }
                case "cancel": {
                    if (t == null) {
                        return -1;
                    }
                    if (t.state != 0) {
                        return -3;
                    }
                    boolean was = t.asked;
                    deed("cancel", a, 0, "");
                    return was ? 0 : 1;
                }
                case "rank": {
                    if (t == null) {
                        return -1;
                    }
                    if (b < -99 || b > 99) {
                        return -2;
                    }
                    if (t.state != 0) {
                        return -3;
                    }
                    int was = t.priority;
                    deed("rank", a, b, "");
                    return was + 100;
                }
                case "of": return t == null ? -1 : ofTask(t, b);
                case "ready": return a < 0 ? -1 : at(w.queue(), a) == null ? -5 : w.queue().get(a).n;
                case "told": {
                    int[] all = {w.scopes.size(), w.open(), w.things.size(), w.held().size(), w.tasks.size(),
                        w.queue().size(), w.turns, w.log.size(), tape.length(), paper.length()};
                    return a < 0 || a > 9 ? -1 : all[a];
                }
                case "image":
                    image = new ArrayList<>(deeds);
                    return w.held().size();
                case "undo":
                    if (image == null) {
                        return -3;
                    }
                    deeds = new ArrayList<>(image);
                    w = again(deeds);
                    return w.held().size();
                default: return answerOnRows(call, a, b, c, d, e);
            }
        }

        private long ofTask(Task t, int what) {
            switch (what) {
                case 0: return t.state;
                case 1: return t.priority + 100;
                case 2: return t.turns;
                case 3: return t.scopes.get(0).n;
                case 4: {
                    int many = 0;
                    for (Scope s : w.scopes) {
                        many += s.task == t.n && !s.state.equals("SHUT") ? 1 : 0;
                    }
                    return many;
                }
                case 5: return t.done;
                case 6: return t.asked ? 1 : 0;
                case 7: return Texts.parts(t.steps).size();
                default: return -1;
            }
        }

        private long answerOnRows(String call, int a, int b, int c, int d, int e) {
            boolean there = a >= 0 && a < 4;
            int[] row = there ? rows[a] : null;
            switch (call) {
                case "row":
                    if (!there) {
                        return -1;
                    }
                    if (b > 40) {
                        return -2;
                    }
                    if (b < 0) {
                        return -14;
                    }
                    rows[a] = new int[b];
                    return 1;
                case "set":
                    if (!there || row == null || b < 0 || b >= row.length) {
                        return !there ? -1 : row == null ? -11 : -13;
                    }
                    row[b] = c;
                    return 1;
                case "get": return row == null || b < 0 || b >= row.length ? Long.MIN_VALUE : row[b];
                case "copy": {
                    if (!there || c < 0 || c > 3) {
                        return -1;
                    }
                    if (row == null || rows[c] == null) {
                        return -11;
                    }
                    if (b < 0 || d < 0 || e < 0 || (long) b + e > row.length || (long) d + e > rows[c].length) {
                        return -13;
                    }
                    int[] were = row.clone();
                    for (int i = 0; i < e; i++) {
                        rows[c][d + i] = were[b + i];
                    }
                    return e;
                }
                case "lay": {
                    if (!there || row == null) {
                        return there ? -11 : -1;
                    }
                    for (int k = 0; k < w.log.size(); k++) {
                        long place = (long) b + k;
                        if (place < 0 || place >= row.length) {
                            return -13;
                        }
                        row[(int) place] = w.log.get(k);
                    }
                    return w.log.size();
                }
                case "judge": {
                    if (!there || row == null) {
                        return there ? -11 : -1;
                    }
                    for (int k = 0; k < w.log.size(); k++) {
                        long place = (long) b + k;
                        if (place < 0 || place >= row.length) {
                            return 200 + k;
                        }
                        if (row[(int) place] != w.log.get(k)) {
                            return w.log.get(k);
                        }
                    }
                    return -5;
                }
                default: throw new IllegalStateException(call);
            }
        }
    }

    // ---- a run of calls

    static final class Fuzz {
        private final Random random;
        private final int seed;
        private final ScopeWarden x = new ScopeWarden();
        private final Keeper keeper = new Keeper();
        private final List<String> told = new ArrayList<>();
        private final int names, length, taking, opening, ticking;

        Fuzz(int seed) {
            this.seed = seed;
            random = new Random(seed);
            names = 3 + random.nextInt(20);
            length = 20 + random.nextInt(120);
            taking = 2 + random.nextInt(10);
            opening = 1 + random.nextInt(seed % 5 == 0 ? 12 : 4);
            ticking = 1 + random.nextInt(8);
        }

        private boolean same(String call, int a, int b, int c, int d, int e) {
            long got = real(call, a, b, c, d, e);
            long want = keeper.answer(call, a, b, c, d, e);
            String line = call + "(" + a + ", " + b + ", " + c + ", " + d + ", " + e + ")";
            if (!call.equals("feed") && told.size() < 2000) {
                told.add(line + " -> " + want);
            }
            Due.is("seed " + seed + ": " + line, got, want);
            if (got != want) {
                for (String s : told) {
                    System.out.println("    " + s);
                }
            }
            return got == want;
        }

        private long real(String call, int a, int b, int c, int d, int e) {
            switch (call) {
                case "feed": return x.feed(a);
                case "clear": return x.clear();
                case "spell": return x.spell(a);
                case "spellTask": return x.spellTask(a);
                case "paper": return x.paper(a);
                case "open": return x.open(a);
                case "take": return x.take(a);
                case "close": return x.close(a);
                case "shut": return x.shut(a);
                case "move": return x.move(a, b);
                case "count": return x.count(a, b);
                case "counter": return x.counter(a);
                case "scope": return x.scope(a, b);
                case "below": return x.below(a, b);
                case "youngest": return x.youngest(a);
                case "entry": return x.entry(a, b);
                case "thing": return x.thing(a, b);
                case "name": return x.name(a, b);
                case "find": return x.find();
                case "from": return x.from();
                case "rename": return x.rename(a);
                case "byName": return x.byName(a);
                case "plan": return x.plan(a, b);
                case "would": return x.would(a, b);
                case "trial": return x.trial(a, b, c);
                case "log": return x.log(a);
                case "fault": return x.fault(a, b, c);
                case "faults": return x.faults(a);
                case "task": return x.task(a, b);
                case "tick": return x.tick();
                case "run": return x.run(a);
                case "cancel": return x.cancel(a);
                case "rank": return x.rank(a, b);
                case "of": return x.of(a, b);
                case "ready": return x.ready(a);
                case "told": return x.told(a);
                case "row": return x.row(a, b);
                case "set": return x.set(a, b, c);
                case "get": return x.get(a, b);
                case "copy": return x.copy(a, b, c, d, e);
                case "lay": return x.lay(a, b);
                case "judge": return x.judge(a, b);
                case "image": return x.image();
                case "undo": return x.undo();
                default: throw new IllegalStateException(call);
            }
        }

        /** So many of all ahead of the run that it comes to the limits. */
        private void fill() {
            for (int i = seed % 4 == 1 ? 40 + random.nextInt(20) : 0; i > 0; i--) {
                same("open", random.nextInt(x.told(0)), 0, 0, 0, 0);
            }
            for (int i = seed % 4 == 2 ? 75 + random.nextInt(15) : 0; i > 0; i--) {
                put("q" + (char) ('a' + i / 26) + (char) ('a' + i % 26) + "=x" + name());
                same("take", random.nextInt(x.told(0)), 0, 0, 0, 0);
            }
        }

        void go() {
            fill();
            for (int i = 0; i < length && Due.wrong() == 0; i++) {
                change();
                for (int k = 0; k < 3; k++) {
                    ask();
                }
                if (random.nextInt(12) == 0) {
                    askAll();
                }
            }
            if (Due.wrong() == 0) {
                askAll();
            }
        }

        private int upTo(int most) {
            return random.nextInt(most + 1);
        }

        /** Mostly the number of something that is there. */
        private int any(int many) {
            int odd = random.nextInt(40);
            int[] odds = {-1, many, -2, Integer.MAX_VALUE, Integer.MIN_VALUE};
            return odd < odds.length || many == 0 ? odds[odd % odds.length] : random.nextInt(many);
        }

        /** One that is OPEN, HELD or READY, if one that is drawn soon is. */
        private int scope() {
            int s = any(x.told(0));
            for (int i = 0; i < 4 && x.scope(s, 0) != 0; i++) {
                s = any(x.told(0));
            }
            return s;
        }

        private int thing() {
            int t = any(x.told(2));
            for (int i = 0; i < 4 && x.thing(t, 0) != 0; i++) {
                t = any(x.told(2));
            }
            return t;
        }

        private int task() {
            int t = any(x.told(4));
            for (int i = 0; i < 2 && x.of(t, 0) != 0; i++) {
                t = any(x.told(4));
            }
            return t;
        }

        private String name() {
            int n = random.nextInt(names);
            return n < 20 ? "" + (char) ('a' + n) : n == 20 ? "aab" : n == 21 ? "abcdefg" : "zzzzzzz";
        }

        private String number(int n, int figures) {
            String s = "" + n;
            while (s.length() < figures && random.nextInt(6) == 0) {
                s = "0" + s;
            }
            return s;
        }

        private String value() {
            int most = random.nextInt(8) == 0 ? 99999 : 6;
            return (random.nextInt(4) == 0 ? "-" : "") + number(random.nextInt(most + 1), 5);
        }

        private String step(int braces) {
            switch (random.nextInt(braces == 0 ? 19 : 15)) {
                case 0: case 1: return "+" + upTo(7) + "=" + value();
                case 2: return random.nextInt(2) == 0 ? "!" + number(1 + upTo(98), 2) : "+0=1";
                case 3: case 4: case 5: return "x" + name();
                case 6: case 7: return "m" + name() + ">" + number(upTo(Math.min(99, x.told(0))), 2);
                case 8: return "k" + upTo(random.nextInt(2) == 0 ? 9 : 2);
                case 9: {
                    String s = step(Math.max(1, braces));
                    return "?" + upTo(3) + "<" + value() + ":" + (s.charAt(0) == '?' ? "." : s);
                }
                case 10: case 11: case 12: case 13:
                    return "a" + name() + (braces < 3 && random.nextInt(3) > 0 ? "{" + steps(braces + 1) + "}" : "");
                case 14: case 15: case 16: return ".";
                default: return "a" + name();
            }
        }

        private String steps(int braces) {
            StringBuilder b = new StringBuilder();
            int many = 1 + random.nextInt(braces == 0 ? 10 : 4);
            int opened = 0;
            for (int i = 0; i < many; i++) {
                b.append(i == 0 ? "" : ";");
                if (braces == 0 && random.nextInt(6) == 0) {
                    b.append('(');
                    opened++;
                } else if (opened > 0 && random.nextInt(4) == 0) {
                    b.append(')');
                    opened--;
                } else {
                    b.append(step(braces));
                }
            }
            for (; opened > 0; opened--) {
                b.append(";)");
            }
            return b.toString();
        }

        /** A text, now and then one with a byte too many, too few, or another one. */
        private void put(String text) {
            StringBuilder b = new StringBuilder(text);
            String odd = "+!axmk?().;{}=<>:-0789az A\u0001\u007f";
            if (random.nextInt(7) == 0) {
                int at = random.nextInt(b.length() + 1);
                char c = odd.charAt(random.nextInt(odd.length()));
                int how = random.nextInt(3);
                if (how == 0) {
                    b.insert(at, c);
                } else if (at < b.length() && how == 1) {
                    b.setCharAt(at, c);
                } else if (at < b.length()) {
                    b.deleteCharAt(at);
                }
            }
            if (random.nextInt(30) > 0) {
                same("clear", 0, 0, 0, 0, 0);
            }
            for (int i = 0; i < b.length() && i < 121; i++) {
                same("feed", b.charAt(i), 0, 0, 0, 0);
            }
        }

        private void change() {
            int kind = random.nextInt(taking + opening + ticking + 13);
            if (kind < taking) {
                put(name() + (random.nextInt(3) == 0 ? "" : "=" + steps(1)));
                same("take", scope(), 0, 0, 0, 0);
            } else if (kind < taking + opening) {
                if (random.nextInt(3) > 0) {
                    same("open", scope(), 0, 0, 0, 0);
                } else {
                    put(steps(0));
                    int priority = random.nextInt(15) == 0 ? (random.nextInt(2) == 0 ? 100 : -100) : upTo(2) - 1;
                    same("task", scope(), priority, 0, 0, 0);
                }
            } else if (kind < taking + opening + ticking) {
                if (random.nextInt(4) > 0) {
                    same("tick", 0, 0, 0, 0, 0);
                } else {
                    same("run", random.nextInt(12) == 0 ? 101 - 102 * upTo(1) : upTo(4), 0, 0, 0, 0);
                }
            } else {
                changeSeldom(kind - taking - opening - ticking);
            }
        }

        private void changeSeldom(int kind) {
            switch (kind) {
                case 0: case 1: same("close", thing(), 0, 0, 0, 0); break;
                case 2: same("shut", random.nextInt(4) == 0 ? 0 : scope(), 0, 0, 0, 0); break;
                case 3: case 4: same("move", thing(), scope(), 0, 0, 0); break;
                case 5: same("count", any(8), random.nextInt(3) == 0 ? Integer.MAX_VALUE : upTo(9) - 4, 0, 0, 0); break;
                case 6:
                    put(name());
                    same("rename", thing(), 0, 0, 0, 0);
                    break;
                case 7: same("cancel", task(), 0, 0, 0, 0); break;
                case 8: same("rank", task(), any(200) - 99, 0, 0, 0); break;
                case 9: case 10: same(random.nextInt(2) == 0 ? "image" : "undo", 0, 0, 0, 0, 0); break;
                default: changeRows(); break;
            }
        }

        private void changeRows() {
            int i = upTo(9) - 1;
            switch (random.nextInt(5)) {
                case 0: same("row", any(4), any(41), 0, 0, 0); break;
                case 1: same("set", any(4), any(20), upTo(50), 0, 0); break;
                case 2: same("copy", any(4), any(20), any(4), any(20), any(9)); break;
                default: same("lay", any(4), i, 0, 0, 0); break;
            }
        }

        private void ask() {
            switch (random.nextInt(24)) {
                case 0: same("scope", any(x.told(0)), any(6), 0, 0, 0); break;
                case 1: same("below", any(x.told(0)), any(x.told(0)), 0, 0, 0); break;
                case 2: same("youngest", any(x.told(0)), 0, 0, 0, 0); break;
                case 3: same("entry", any(x.told(0)), any(5), 0, 0, 0); break;
                case 4: same("thing", any(x.told(2)), any(4), 0, 0, 0); break;
                case 5: same("name", any(x.told(2)), any(8), 0, 0, 0); break;
                case 6:
                    put(name());
                    same("find", 0, 0, 0, 0, 0);
                    break;
                case 7:
                    put(random.nextInt(4) == 0 ? step(1) : name() + (random.nextInt(2) == 0 ? "" : name()));
                    same("from", 0, 0, 0, 0, 0);
                    break;
                case 8: same("byName", any(x.told(3)), 0, 0, 0, 0); break;
                case 9: same("plan", any(x.told(0)), any(12), 0, 0, 0); break;
                case 10: case 11: case 12: same("would", scope(), any(6), 0, 0, 0); break;
                case 13: case 14: case 15: same("trial", any(x.told(4)), any(101), any(6), 0, 0); break;
                case 16: same("log", any(x.told(7)), 0, 0, 0, 0); break;
                case 17: same("fault", any(x.told(4) + 1) - 1, any(4), any(2), 0, 0); break;
                case 18: same("faults", any(x.told(4) + 1) - 1, 0, 0, 0, 0); break;
                case 19: same("of", any(x.told(4)), any(8), 0, 0, 0); break;
                case 20: same("ready", any(5), 0, 0, 0, 0); break;
                case 21: same("told", any(10), 0, 0, 0, 0); break;
                case 22: same("judge", any(4), upTo(9) - 1, 0, 0, 0); break;
                default: same("get", any(4), any(20), 0, 0, 0); break;
            }
        }

        private void askAll() {
            for (int what = -1; what <= 10; what++) {
                same("told", what, 0, 0, 0, 0);
            }
            for (int s = 0; s < x.told(0); s++) {
                for (int what = -1; what <= 6; what++) {
                    same("scope", s, what, 0, 0, 0);
                }
                for (int i = -2; i <= x.scope(s, 2); i++) {
                    same("entry", s, i, 0, 0, 0);
                }
                for (int i = -2; i <= x.scope(s, 3); i++) {
                    same("plan", s, i, 0, 0, 0);
                }
            }
            for (int t = 0; t < x.told(2); t++) {
                for (int what = -1; what <= 4; what++) {
                    same("thing", t, what, 0, 0, 0);
                }
                for (int i = -2; i <= 7; i++) {
                    same("name", t, i, 0, 0, 0);
                }
                same("spell", t, 0, 0, 0, 0);
                paper();
            }
            for (int t = 0; t < x.told(4); t++) {
                for (int what = -1; what <= 8; what++) {
                    same("of", t, what, 0, 0, 0);
                }
                same("spellTask", t, 0, 0, 0, 0);
                paper();
            }
            for (int t = -2; t <= x.told(4); t++) {
                same("faults", t, 0, 0, 0, 0);
                for (int i = -1; i <= x.faults(t); i++) {
                    same("fault", t, i, 0, 0, 0);
                    same("fault", t, i, 1, 0, 0);
                }
            }
            for (int i = -1; i <= x.told(3); i++) {
                same("byName", i, 0, 0, 0, 0);
            }
            for (int i = -1; i <= x.told(7); i++) {
                same("log", i, 0, 0, 0, 0);
            }
            for (int i = -1; i <= 10; i++) {
                same("ready", i, 0, 0, 0, 0);
            }
            for (int k = -1; k <= 8; k++) {
                same("counter", k, 0, 0, 0, 0);
            }
            for (int r = 0; r < 4; r++) {
                for (int i = -1; i <= 40; i++) {
                    same("get", r, i, 0, 0, 0);
                }
            }
        }

        private void paper() {
            for (int i = -1; i <= x.told(9); i++) {
                same("paper", i, 0, 0, 0, 0);
            }
        }
    }
}
