import java.util.ArrayList;
import java.util.List;

/** Runs of up to 512 calls, the same each time, on the class and on the model: each answer is the same. */
public final class ModelRunsTest {
    private static final int RUNS = 1200;
    private static final int CALLS = 512;
    /** A contract of 36 characters: five calls of type and one of contract. */
    private static final int MOST_AT_ONCE = 6;
    private static final String[] RULES = {
        "1a!1", "1b?1", "1A!1", "1B?1", "1E!1", "1E?1", "1C!2", "2b?1", "2E!1", "2E?1", "2B!1", "1c!2", "2c!0", "2A!3",
        "3E?1", "3a!6",
    };
    /** How often each method is called, of a hundred; the rest looks at the object. */
    private static final int[] OFTEN = {3, 2, 4, 1, 6, 2, 2, 2, 8, 36, 12, 4, 3};

    private final ExchangeSystem x = new ExchangeSystem();
    private final Model model = new Model();
    private final int run;
    private long seed;

    private interface Answer {
        long ask();
    }

    public static void main(String[] args) {
        for (int run = 1; run <= RUNS; run++) {
            new ModelRunsTest(run).go();
        }
        Due.end();
    }

    private ModelRunsTest(int run) {
        this.run = run;
        this.seed = run * 7919L;
    }

    private int below(int bound) {
        seed = seed * 6364136223846793005L + 1442695040888963407L;
        return (int) ((seed >>> 33) % bound);
    }

    private boolean oneOf(int many) {
        return below(many) == 0;
    }

    /** Mostly within 0 .. bound - 1, now and then just beyond. */
    private int near(int bound) {
        return oneOf(40) ? (oneOf(2) ? -1 : bound) : below(bound);
    }

    private void go() {
        contract("1a!1,1b?1,1A!1,1B?1,1E!1".substring(0, 5 * (1 + below(5)) - 1), 0);
        int made = MOST_AT_ONCE;
        while (made + MOST_AT_ONCE <= CALLS) {
            made += callOne();
        }
    }

    private void same(String call, Answer ofClass, Answer ofModel) {
        String got = answer(ofClass);
        String want = answer(ofModel);
        if (!got.equals(want)) {
            Due.report("run " + run + ": " + call + " answered " + got + ", due is " + want);
        }
    }

    private static String answer(Answer asked) {
        try {
            return "" + asked.ask();
        } catch (RuntimeException thrown) {
            return "throws " + thrown.getClass().getSimpleName();
        }
    }

    /** Answers how many calls it made. */
    private int callOne() {
        int dice = below(100);
        int method = 0;
        while (method < OFTEN.length && dice >= OFTEN[method]) {
            dice -= OFTEN[method];
            method++;
        }
        switch (method) {
            case 0:
                type(oneOf(6) ? 1L << below(64) : Due.eight(RULES[below(RULES.length)].substring(0, 1 + below(4))));
                return 1;
            case 1:
                contract(randomText(), near(4));
                return MOST_AT_ONCE;
            case 2:
                same("start", x::start, model::start);
                return 1;
            case 9:
                say();
                return 1;
            default:
                return method < OFTEN.length ? callWithProcess(method, busyProcess()) : look();
        }
    }

    private int callWithProcess(int method, int p) {
        int b = ownBlock(p);
        int e = ownEnd(p);
        int i = oneOf(10) ? below(10) - 1 : below(3);
        int v = below(1000) - 500;
        switch (method) {
            case 3:
                same("kill " + p, () -> x.kill(p), () -> model.kill(p));
                break;
            case 4:
                int n = oneOf(20) ? below(2) * 9 : 1 + below(8);
                same("block " + p + " " + n, () -> x.block(p, n), () -> model.block(p, n));
                break;
            case 5:
                same("free " + p + " " + b, () -> done(() -> x.free(p, b)), () -> done(() -> model.free(p, b)));
                break;
            case 6:
                same("read " + p + " " + b + " " + i, () -> x.read(p, b, i), () -> model.read(p, b, i));
                break;
            case 7:
                same("write " + p + " " + b + " " + i,
                    () -> done(() -> x.write(p, b, i, v)), () -> done(() -> model.write(p, b, i, v)));
                break;
            case 8:
                int q = near(4);
                int k = oneOf(20) ? near(4) : below(2);
                same("open " + p + " " + q + " " + k, () -> x.open(p, q, k), () -> model.open(p, q, k));
                break;
            case 10:
                same("hear " + p + " " + e, () -> x.hear(p, e), () -> model.hear(p, e));
                break;
            case 11:
                int mask = oneOf(3) ? 4095 : near(4096);
                same("choose " + p + " " + mask, () -> x.choose(p, mask), () -> model.choose(p, mask));
                break;
            default:
                same("close " + p + " " + e, () -> x.close(p, e), () -> model.close(p, e));
        }
        return 1;
    }

    private static int done(Due.Call call) {
        call.make();
        return 0;
    }

    private void type(long eight) {
        same("type " + eight, () -> x.type(eight), () -> model.type(eight));
    }

    private void contract(String text, int k) {
        for (int i = 0; i < text.length(); i += 8) {
            type(Due.eight(text.substring(i, Math.min(i + 8, text.length()))));
        }
        same("contract " + k + " of " + text, () -> x.contract(k), () -> model.contract(k));
    }

    /** At most 36 characters, so at most five calls of type. */
    private String randomText() {
        StringBuilder text = new StringBuilder(RULES[below(RULES.length)]);
        int more = below(6);
        for (int i = 0; i < more; i++) {
            text.append(',').append(RULES[below(RULES.length)]);
        }
        if (oneOf(4)) {
            text.setCharAt(below(text.length()), (char) (33 + below(94)));
        }
        return text.toString();
    }

    /** Mostly the owner of an end, as others have little to do. */
    private int busyProcess() {
        int p = near(4);
        for (int attempt = 0; attempt < 4 && !oneOf(6); attempt++) {
            Model.End end = model.ends[below(12)];
            p = end != null && end.owner < 4 ? end.owner : p;
        }
        return p;
    }

    private int ownBlock(int p) {
        List<Integer> own = new ArrayList<>();
        for (int b = 0; b < 12; b++) {
            if (model.blocks[b] != null && model.blocks[b].owner == p) {
                own.add(b);
            }
        }
        return own.isEmpty() || oneOf(8) ? near(12) : own.get(below(own.size()));
    }

    private int ownEnd(int p) {
        List<Integer> own = new ArrayList<>();
        for (int e = 0; e < 12; e++) {
            if (model.ends[e] != null && model.ends[e].owner == p) {
                own.add(e);
            }
        }
        return own.isEmpty() || oneOf(8) ? near(12) : own.get(below(own.size()));
    }

    private void say() {
        int p = busyProcess();
        int e = ownEnd(p);
        int letter = allowedLetter(e);
        int value = letter == 6 ? ownEnd(p) : letter >= 3 ? ownBlock(p) : below(40) - 10;
        same("say " + p + " " + e + " " + letter + " " + value,
            () -> done(() -> x.say(p, e, letter, value)), () -> done(() -> model.say(p, e, letter, value)));
    }

    private int allowedLetter(int e) {
        List<Integer> allowed = new ArrayList<>();
        for (int letter = 0; letter < 7 && e >= 0 && e < 12 && model.ends[e] != null; letter++) {
            if (Model.behind(model.ends[e], letter, "!?".charAt(e % 2)) >= 0) {
                allowed.add(letter);
            }
        }
        return allowed.isEmpty() || oneOf(10) ? near(7) : allowed.get(below(allowed.size()));
    }

    private int look() {
        int number = near(12);
        int what = near(3);
        int counted = near(10);
        same("ofBlock " + number + " " + what, () -> x.ofBlock(number, what), () -> model.ofBlock(number, what));
        same("ofEnd " + number + " " + what, () -> x.ofEnd(number, what), () -> model.ofEnd(number, what));
        same("count " + counted, () -> x.count(counted), () -> model.count(counted));
        return 3;
    }
}
