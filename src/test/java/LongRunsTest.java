import java.util.ArrayList;
import java.util.List;

/**
 * Long runs of calls, the same each time: what throws changes nothing, only what the face allows is
 * thrown, and the counts agree with what is told of each block and end.
 */
public final class LongRunsTest {
    private static final int RUNS = 2000;
    /** With what looks at the object afterwards, below the 512 that the document promises. */
    private static final int CALLS = 260;
    private static final String[] ALLOWED = {
        "type IllegalArgumentException UnsupportedOperationException",
        "contract IllegalArgumentException",
        "start UnsupportedOperationException",
        "kill IllegalArgumentException IllegalStateException",
        "block IllegalArgumentException IllegalStateException UnsupportedOperationException",
        "free IllegalArgumentException IllegalStateException",
        "read IllegalArgumentException IllegalStateException NoSuchElementException",
        "write IllegalArgumentException IllegalStateException NoSuchElementException",
        "open IllegalArgumentException IllegalStateException NoSuchElementException UnsupportedOperationException",
        "say IllegalArgumentException IllegalStateException NoSuchElementException",
        "hear IllegalArgumentException IllegalStateException NoSuchElementException",
        "choose IllegalArgumentException IllegalStateException NoSuchElementException",
        "close IllegalArgumentException IllegalStateException",
    };
    private static final String[] TEXTS = {"1a!1,1A!1", ",1E!1", "1E?1,1B?1", ",1b?2,2c!1", "1a!1", "x"};

    private long seed;

    public static void main(String[] args) {
        for (int run = 1; run <= RUNS; run++) {
            new LongRunsTest(run).runTwice(run);
        }
        Due.end();
    }

    private LongRunsTest(long seed) {
        this.seed = seed;
    }

    private int below(int bound) {
        seed = seed * 6364136223846793005L + 1442695040888963407L;
        return (int) ((seed >>> 33) % bound);
    }

    private int near(int bound) {
        return below(50) == 0 ? below(3) - 1 + (below(2) == 0 ? 0 : bound) : below(bound);
    }

    private void runTwice(int run) {
        ExchangeSystem x = new ExchangeSystem();
        Due.contract(x, 0, "1a!1,1b?1,1E!1,1A!1,1B?1");
        ExchangeSystem again = new ExchangeSystem();
        Due.contract(again, 0, "1a!1,1b?1,1E!1,1A!1,1B?1");
        List<long[]> kept = new ArrayList<>();
        List<String> answers = new ArrayList<>();
        for (int i = 0; i < CALLS; i++) {
            long[] call = nextCall();
            String answer = answer(x, call);
            boolean threw = answer.startsWith("throws");
            if (threw && !ALLOWED[(int) call[0]].contains(answer.substring(7))) {
                Due.report("run " + run + ": " + ALLOWED[(int) call[0]] + " answered " + answer);
            }
            boolean emptiesTheText = call[0] == 1 && call[1] >= 0 && call[1] < 4;
            if (!threw || emptiesTheText) {
                kept.add(call);
                answers.add(answer);
            }
        }
        for (int i = 0; i < kept.size(); i++) {
            Due.same("run " + run + ": the answer", answer(again, kept.get(i)), answers.get(i));
        }
        Due.same("run " + run + ": the run without what threw", Due.picture(again), Due.picture(x));
        countsAgree(run, x);
    }

    private long[] nextCall() {
        int[] often = {0, 1, 2, 3, 4, 4, 5, 6, 7, 8, 8, 8, 8, 9, 9, 9, 9, 9, 9, 9, 9, 9, 9, 9, 9, 10, 10, 10, 11, 12};
        int method = often[below(often.length)];
        long first = method == 0 ? Due.eight(TEXTS[below(TEXTS.length)].substring(0, 1)) : near(4);
        if (method == 0 && below(2) == 0) {
            first = Due.eight("1a!1,1E!");
        }
        if (method == 3 && below(4) != 0) {
            method = 2;
        }
        return new long[] {method, first, near(method == 8 ? 4 : 12), near(7), near(12)};
    }

    private static String answer(ExchangeSystem x, long[] call) {
        try {
            return "" + make(x, call);
        } catch (RuntimeException thrown) {
            return "throws " + thrown.getClass().getSimpleName();
        }
    }

    private static long make(ExchangeSystem x, long[] call) {
        int p = (int) call[1];
        int second = (int) call[2];
        int third = (int) call[3];
        int fourth = (int) call[4];
        switch ((int) call[0]) {
            case 0:
                return x.type(call[1]);
            case 1:
                return x.contract(p);
            case 2:
                return x.start();
            case 3:
                return x.kill(p);
            case 4:
                return x.block(p, third + 1);
            case 5:
                x.free(p, second);
                return 0;
            case 6:
                return x.read(p, second, third);
            case 7:
                x.write(p, second, third, fourth);
                return 0;
            case 8:
                return x.open(p, second, fourth % 4 == 3 ? 1 : 0);
            case 9:
                x.say(p, second, third, fourth);
                return 0;
            case 10:
                return x.hear(p, second);
            case 11:
                return x.choose(p, second * 341);
            default:
                return x.close(p, second);
        }
    }

    private static void countsAgree(int run, ExchangeSystem x) {
        String name = "run " + run + ": ";
        int blocks = 0;
        int cells = 0;
        int carried = 0;
        for (int b = 0; b < 12; b++) {
            blocks += x.ofBlock(b, 0) >= 0 ? 1 : 0;
            carried += x.ofBlock(b, 0) == 4 ? 1 : 0;
            cells += x.ofBlock(b, 1);
        }
        int open = 0;
        int messages = 0;
        for (int e = 0; e < 12; e++) {
            open += x.ofEnd(e, 0) >= 0 ? 1 : 0;
            carried += x.ofEnd(e, 0) == 4 ? 1 : 0;
            messages += x.ofEnd(e, 2);
        }
        Due.is(name + "blocks", x.count(1), blocks);
        Due.is(name + "cells", x.count(2), cells);
        Due.is(name + "ends open", x.count(3), open);
        Due.is(name + "messages", x.count(4), messages);
        Due.is(name + "said", x.count(5), x.count(6) + x.count(7) + messages);
        if (carried > messages) {
            Due.report(name + carried + " carried by " + messages + " messages");
        }
    }
}
