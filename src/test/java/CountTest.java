/** Promise 17. */
public final class CountTest {
    public static void main(String[] args) {
        ExchangeSystem x = new ExchangeSystem();
        counts("a new object", x, 1, 0, 0, 0, 0, 0, 0, 0, 0, 0);
        Due.contract(x, 2, "1a!1,1A!1,1E!1");
        counts("a contract", x, 1, 0, 0, 0, 0, 0, 0, 0, 0, 1);
        Due.contract(x, 2, "1a!1,1A!1,1E!1");
        counts("the same again", x, 1, 0, 0, 0, 0, 0, 0, 0, 0, 1);
        Due.contract(x, 0, "1a!1");
        x.start();
        x.start();
        counts("another, and processes", x, 3, 0, 0, 0, 0, 0, 0, 0, 0, 2);
        x.block(0, 3);
        x.block(1, 8);
        counts("blocks", x, 3, 2, 11, 0, 0, 0, 0, 0, 0, 2);
        x.open(0, 1, 2);
        x.open(0, 2, 2);
        counts("channels", x, 3, 2, 11, 4, 0, 0, 0, 0, 0, 2);
        x.say(0, 0, 0, 0);
        x.say(0, 0, 3, 0);
        x.say(0, 0, 6, 2);
        counts("messages", x, 3, 2, 11, 4, 3, 3, 0, 0, 0, 2);
        x.hear(1, 1);
        counts("one heard", x, 3, 2, 11, 4, 2, 3, 1, 0, 0, 2);
        x.kill(1);
        counts("one killed", x, 2, 0, 0, 2, 0, 3, 1, 2, 1, 2);
        x.start();
        counts("one started", x, 3, 0, 0, 2, 0, 3, 1, 2, 1, 2);
        x.kill(1);
        x.kill(0);
        counts("killed again", x, 1, 0, 0, 1, 0, 3, 1, 2, 3, 2);
        int[] others = {-1, 10, 11, 100, Integer.MIN_VALUE, Integer.MAX_VALUE};
        for (int what : others) {
            Due.is("count(" + what + ")", x.count(what), -1);
        }
        Due.end();
    }

    private static void counts(String when, ExchangeSystem x, int... want) {
        for (int what = 0; what <= 9; what++) {
            Due.is("count(" + what + ") behind " + when, x.count(what), want[what]);
        }
    }
}
