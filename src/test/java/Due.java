import java.util.NoSuchElementException;

/** What the tests share: answers and exceptions that are due, and how a test ends. */
final class Due {
    /** Far above what the slowest test needs: a call that does not end must not hold up the others. */
    private static final long LONGEST_MILLISECONDS = 120_000;

    private static int wrong = 0;

    static {
        Thread watch = new Thread(Due::haltLater);
        watch.setDaemon(true);
        watch.start();
    }

    interface Call {
        void make();
    }

    interface Scene {
        ExchangeSystem make();
    }

    interface Use {
        void on(ExchangeSystem x);
    }

    private Due() {
    }

    private static void haltLater() {
        try {
            Thread.sleep(LONGEST_MILLISECONDS);
        } catch (InterruptedException stop) {
            return;
        }
        System.out.println("a call does not end");
        Runtime.getRuntime().halt(1);
    }

    /** The test of one sentence of the document; a failure names the sentence. */
    static void sentence(String sentence, Call test) {
        int before = wrong;
        try {
            test.make();
        } catch (RuntimeException | StackOverflowError thrown) {
            report("threw " + thrown + " at " + placeInTest(thrown));
        }
        if (wrong != before) {
            System.out.println("    broken: " + sentence);
        }
    }

    private static String placeInTest(Throwable thrown) {
        for (StackTraceElement place : thrown.getStackTrace()) {
            if (place.getClassName().endsWith("Test")) {
                return place.toString();
            }
        }
        return "an unknown place";
    }

    static void is(String call, long got, long want) {
        if (got != want) {
            report(call + " answered " + got + ", due is " + want);
        }
    }

    static void same(String what, String got, String want) {
        if (!got.equals(want)) {
            report(what + " is " + got + ", due is " + want);
        }
    }

    static void bad(String name, Call call) {
        thrown(name, call, IllegalArgumentException.class);
    }

    static void notYours(String name, Call call) {
        thrown(name, call, IllegalStateException.class);
    }

    static void none(String name, Call call) {
        thrown(name, call, NoSuchElementException.class);
    }

    static void noRoom(String name, Call call) {
        thrown(name, call, UnsupportedOperationException.class);
    }

    private static void thrown(String name, Call call, Class<? extends RuntimeException> want) {
        try {
            call.make();
        } catch (RuntimeException got) {
            if (got.getClass() != want) {
                report(name + " threw " + got + ", due is " + want.getName());
            }
            return;
        }
        report(name + " threw nothing, due is " + want.getName());
    }

    /**
     * The call throws an exception of the document, and then the object answers like one of the same
     * scene without that call.
     */
    static void changesNothing(String name, Scene scene, Use call) {
        ExchangeSystem x = scene.make();
        try {
            call.on(x);
            report(name + " threw nothing");
        } catch (IllegalArgumentException | IllegalStateException | NoSuchElementException
                | UnsupportedOperationException thrown) {
            same("behind " + name + " all", everything(x), everything(scene.make()));
        }
    }

    static void report(String line) {
        wrong++;
        System.out.println(line);
    }

    /** The last line of every test. */
    static void end() {
        System.out.println(wrong == 0 ? "all answers are as due" : wrong + " answers are not as due");
        if (wrong != 0) {
            System.exit(1);
        }
    }

    /** Numbers out of the range, next to it and far from it. */
    static int[] outside(int least, int most) {
        return new int[] {least - 1, most + 1, Integer.MIN_VALUE, Integer.MAX_VALUE};
    }

    /** The number whose bytes are the characters of a text of at most eight. */
    static long eight(String text) {
        long number = 0;
        for (int i = 0; i < text.length(); i++) {
            number = number << 8 | text.charAt(i);
        }
        return number;
    }

    static void type(ExchangeSystem x, String text) {
        for (int i = 0; i < text.length(); i += 8) {
            x.type(eight(text.substring(i, Math.min(i + 8, text.length()))));
        }
    }

    static int contract(ExchangeSystem x, int k, String text) {
        type(x, text);
        return x.contract(k);
    }

    /** A new object whose contract 0 is the text, with so many processes alive. */
    static ExchangeSystem system(int processes, String text) {
        ExchangeSystem x = new ExchangeSystem();
        contract(x, 0, text);
        for (int p = 1; p < processes; p++) {
            x.start();
        }
        return x;
    }

    /** Opens so many channels with contract 0, both ends owned by process 0. */
    static void openOwn(ExchangeSystem x, int channels) {
        for (int c = 0; c < channels; c++) {
            x.open(0, 0, 0);
        }
    }

    /** Hands so many blocks of n cells to process p. */
    static void handOut(ExchangeSystem x, int p, int blocks, int n) {
        for (int b = 0; b < blocks; b++) {
            x.block(p, n);
        }
    }

    /** All that can be seen of an object, but for what waits in queues. */
    static String picture(ExchangeSystem x) {
        StringBuilder all = new StringBuilder("text ").append(x.type(0)).append("; counts");
        for (int what = 0; what <= 9; what++) {
            all.append(' ').append(x.count(what));
        }
        for (int b = 0; b < 12; b++) {
            int owner = x.ofBlock(b, 0);
            int cells = x.ofBlock(b, 1);
            all.append("; block ").append(b).append(' ').append(owner).append(" of ").append(cells);
            for (int i = 0; i < cells && owner >= 0 && owner < 4; i++) {
                all.append(' ').append(x.read(owner, b, i));
            }
        }
        for (int e = 0; e < 12; e++) {
            all.append("; end ").append(e).append(' ').append(x.ofEnd(e, 0));
            all.append(' ').append(x.ofEnd(e, 1)).append(' ').append(x.ofEnd(e, 2));
        }
        return all.toString();
    }

    /** The picture, then all that can be heard, then the picture again: the object is used up. */
    private static String everything(ExchangeSystem x) {
        StringBuilder all = new StringBuilder(picture(x)).append("; heard");
        for (int pass = 0; pass < 2; pass++) {
            for (int e = 0; e < 12; e++) {
                int owner = x.ofEnd(e, 0);
                if (owner >= 0 && owner < 4) {
                    all.append(' ').append(e).append(':').append(heardAt(x, owner, e));
                }
            }
        }
        return all.append("; ").append(picture(x)).toString();
    }

    private static String heardAt(ExchangeSystem x, int owner, int e) {
        StringBuilder all = new StringBuilder();
        try {
            for (int m = 0; m < 3; m++) {
                all.append(x.hear(owner, e)).append(',');
            }
        } catch (IllegalStateException | NoSuchElementException thrown) {
            all.append(thrown.getClass().getSimpleName());
        }
        return all.toString();
    }
}
