import java.util.Random;

/** No call throws or fails to end, whatever its arguments, in whatever state, also behind the 512th call. */
public final class HardyTest {
    private static final int[] ODD = {Integer.MIN_VALUE, Integer.MIN_VALUE + 1, -101, -100, -99, -15, -5, -2, -1, 0, 1, 2,
        3, 4, 5, 7, 8, 9, 10, 39, 40, 41, 59, 60, 61, 89, 90, 91, 99, 100, 101, 119, 120, 121, 127, 128, 200,
        Integer.MAX_VALUE - 1, Integer.MAX_VALUE};
    private static final String SIGNS = "abcxmk+!?()=<>{};:.-0123456789";

    public static void main(String[] args) {
        for (int seed = 1; seed <= 60; seed++) {
            Random random = new Random(seed);
            ScopeWarden x = new ScopeWarden();
            for (int i = 0; i < 3000; i++) {
                int call = i % 44;
                if (random.nextInt(3) == 0) {
                    call = random.nextInt(44);
                }
                try {
                    call(x, call, random);
                } catch (RuntimeException e) {
                    Due.isTrue("seed " + seed + ", call " + call + " without " + e, false);
                }
            }
            Due.isTrue("told(2) of seed " + seed, x.told(2) >= 0 && x.told(2) <= 90);
            Due.isTrue("told(0) of seed " + seed, x.told(0) >= 1 && x.told(0) <= 60);
        }
        longRun();
        Due.end();
    }

    private static int any(Random random, int near) {
        return random.nextInt(3) == 0 ? ODD[random.nextInt(ODD.length)] : random.nextInt(near);
    }

    private static void put(ScopeWarden x, Random random) {
        String[] parts = {"a", "b=", "ab{", "}", "!9", ";", "(", ")", ".", "k0", "xa", "mb>1", "+0=1", "?0<9:"};
        StringBuilder b = new StringBuilder();
        for (int i = random.nextInt(12); i >= 0; i--) {
            b.append(random.nextInt(4) == 0 ? "" + SIGNS.charAt(random.nextInt(SIGNS.length()))
                    : parts[random.nextInt(parts.length)]);
        }
        if (random.nextInt(3) > 0) {
            String[] good = {"a", "b=!1;ab{xb}", "c=aa{ab{ac}};xb;ma>1", ".;(;ab{!1;xa};.;k1;);xb", "(;aa;.;ac;)"};
            b = new StringBuilder(good[random.nextInt(good.length)]);
        }
        Due.put(x, b.toString());
    }

    private static void call(ScopeWarden x, int call, Random random) {
        int a = any(random, 9);
        int b = any(random, 9);
        int c = any(random, 9);
        switch (call) {
            case 0: x.feed(a); break;
            case 1: x.clear(); break;
            case 2: x.spell(a); break;
            case 3: x.spellTask(a); break;
            case 4: x.paper(a); break;
            case 5: x.open(a); break;
            case 6: put(x, random); x.take(a); break;
            case 7: x.close(a); break;
            case 8: x.shut(a); break;
            case 9: x.move(a, b); break;
            case 10: x.count(a, b); break;
            case 11: x.counter(a); break;
            case 12: x.scope(a, b); break;
            case 13: x.below(a, b); break;
            case 14: x.youngest(a); break;
            case 15: x.entry(a, b); break;
            case 16: x.thing(a, b); break;
            case 17: x.name(a, b); break;
            case 18: put(x, random); x.find(); break;
            case 19: put(x, random); x.from(); break;
            case 20: put(x, random); x.rename(a); break;
            case 21: x.byName(a); break;
            case 22: x.plan(a, b); break;
            case 23: x.would(a, b); break;
            case 24: x.trial(a, b, c); break;
            case 25: x.log(a); break;
            case 26: x.fault(a, b, c); break;
            case 27: x.faults(a); break;
            case 28: put(x, random); x.task(a, b); break;
            case 29: x.tick(); break;
            case 30: x.run(a); break;
            case 31: x.cancel(a); break;
            case 32: x.rank(a, b); break;
            case 33: x.of(a, b); break;
            case 34: x.ready(a); break;
            case 35: x.told(a); break;
            case 36: x.row(a, b); break;
            case 37: x.set(a, b, c); break;
            case 38: x.get(a, b); break;
            case 39: x.copy(a, b, any(random, 5), any(random, 5), c); break;
            case 40: x.lay(a, b); break;
            case 41: x.judge(a, b); break;
            case 42: x.image(); break;
            default: x.undo(); break;
        }
    }

    /** Every pair of odd arguments of the calls that take two, on one object that holds much. */
    private static void longRun() {
        ScopeWarden x = new ScopeWarden();
        x.open(0);
        Due.take(x, 1, "a=!1");
        Due.task(x, 0, 0, ".;.;.");
        x.row(0, 5);
        x.row(1, 0);
        x.close(0);
        String before = Due.all(x);
        for (int a : ODD) {
            for (int b : ODD) {
                x.scope(a, b);
                x.below(a, b);
                x.entry(a, b);
                x.thing(a, b);
                x.name(a, b);
                x.plan(a, b);
                x.would(a, b);
                x.fault(a, b, 0);
                x.fault(-1, a, b);
                x.of(a, b);
                x.get(a, b);
                x.judge(a, b);
                x.copy(0, a, 1, b, a);
                x.copy(0, a, 0, a, b > 0 ? 0 : b);
                x.trial(a, b, 0);
            }
            x.told(a);
            x.ready(a);
            x.byName(a);
            x.log(a);
            x.youngest(a);
            x.paper(a);
            x.counter(a);
            x.faults(a);
        }
        Due.is("what is asked changes nothing", Due.all(x), before);
    }
}
