import java.util.NoSuchElementException;

/** What the tests share: answers and exceptions that are due, and how a test ends. */
final class Due {
    private static int wrong = 0;

    interface Call {
        void make();
    }

    private Due() {
    }

    static void is(String call, long got, long want) {
        if (got != want) {
            report(call + " answered " + got + ", due is " + want);
        }
    }

    static void same(String what, String got, String want) {
        if (!got.equals(want)) {
            report(what + " is " + got + ", due is " + want);
        }
    }

    static void bad(String name, Call call) {
        thrown(name, call, IllegalArgumentException.class);
    }

    static void notYours(String name, Call call) {
        thrown(name, call, IllegalStateException.class);
    }

    static void none(String name, Call call) {
        thrown(name, call, NoSuchElementException.class);
    }

    static void noRoom(String name, Call call) {
        thrown(name, call, UnsupportedOperationException.class);
    }

    private static void thrown(String name, Call call, Class<? extends RuntimeException> want) {
        try {
            call.make();
        } catch (RuntimeException got) {
            if (got.getClass() != want) {
                report(name + " threw " + got + ", due is " + want.getName());
            }
            return;
        }
        report(name + " threw nothing, due is " + want.getName());
    }

    static void report(String line) {
        wrong++;
        System.out.println(line);
    }

    /** The last line of every test. */
    static void end() {
        System.out.println(wrong == 0 ? "all answers are as due" : wrong + " answers are not as due");
        if (wrong != 0) {
            System.exit(1);
        }
    }

    /** The number whose bytes are the characters of a text of at most eight. */
    static long eight(String text) {
        long number = 0;
        for (int i = 0; i < text.length(); i++) {
            number = number << 8 | text.charAt(i);
        }
        return number;
    }

    static void type(ExchangeSystem x, String text) {
        for (int i = 0; i < text.length(); i += 8) {
            x.type(eight(text.substring(i, Math.min(i + 8, text.length()))));
        }
    }

    static int contract(ExchangeSystem x, int k, String text) {
        type(x, text);
        return x.contract(k);
    }

    /** A new object whose contract 0 is the text, with so many processes alive. */
    static ExchangeSystem system(int processes, String text) {
        ExchangeSystem x = new ExchangeSystem();
        contract(x, 0, text);
        for (int p = 1; p < processes; p++) {
            x.start();
        }
        return x;
    }

    /** All that can be seen of an object, but for the cells of blocks that messages carry. */
    static String picture(ExchangeSystem x) {
        StringBuilder all = new StringBuilder("counts");
        for (int what = 0; what <= 9; what++) {
            all.append(' ').append(x.count(what));
        }
        for (int b = 0; b < 12; b++) {
            int owner = x.ofBlock(b, 0);
            all.append("; block ").append(b).append(' ').append(owner);
            for (int i = 0; i < x.ofBlock(b, 1) && owner < 4; i++) {
                all.append(' ').append(x.read(owner, b, i));
            }
        }
        for (int e = 0; e < 12; e++) {
            all.append("; end ").append(e).append(' ').append(x.ofEnd(e, 0));
            all.append(' ').append(x.ofEnd(e, 1)).append(' ').append(x.ofEnd(e, 2));
        }
        return all.toString();
    }
}
