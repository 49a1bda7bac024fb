/** Promise 17. */
public final class CountTest {
    public static void main(String[] args) {
        Due.sentence("Processes ALIVE (0).", CountTest::processes);
        Due.sentence("BLOCKS that aren't free (1).", CountTest::blocks);
        Due.sentence("Cells in these (2).", CountTest::cells);
        Due.sentence("ENDS OPEN (3).", CountTest::ends);
        Due.sentence("MESSAGES in QUEUES (4).", CountTest::messages);
        Due.sentence("Said so far (5).", CountTest::said);
        Due.sentence("Heard (6).", CountTest::heard);
        Due.sentence("DROPPED (7).", CountTest::dropped);
        Due.sentence("KILLED (8).", CountTest::killed);
        Due.sentence("CONTRACTS (9).", CountTest::contracts);
        Due.sentence("Else -1.", CountTest::anythingElse);
        Due.sentence("All counts in one run.", CountTest::inOneRun);
        Due.end();
    }

    private static void processes() {
        ExchangeSystem x = new ExchangeSystem();
        for (int p = 1; p <= 4; p++) {
            Due.is("count(0)", x.count(0), p);
            if (p < 4) {
                x.start();
            }
        }
        Due.noRoom("start()", x::start);
        Due.is("count(0) behind no room", x.count(0), 4);
        for (int p = 3; p >= 0; p--) {
            x.kill(p);
            Due.is("count(0)", x.count(0), p);
        }
    }

    private static void blocks() {
        ExchangeSystem x = Due.system(2, "1A!1");
        x.open(0, 1, 0);
        for (int b = 1; b <= 12; b++) {
            x.block(b & 1, 1);
            Due.is("count(1)", x.count(1), b);
        }
        x.say(0, 0, 3, 1);
        Due.is("a carried one isn't free", x.count(1), 12);
        x.free(0, 3);
        Due.is("count(1)", x.count(1), 11);
        x.close(1, 1);
        Due.is("a dropped one is", x.count(1), 10);
        x.kill(1);
        Due.is("count(1)", x.count(1), 4);
        x.kill(0);
        Due.is("count(1)", x.count(1), 0);
    }

    private static void cells() {
        ExchangeSystem x = Due.system(2, "1A!1");
        x.open(0, 1, 0);
        int all = 0;
        for (int n = 1; n <= 8; n++) {
            x.block(0, n);
            all += n;
            Due.is("count(2)", x.count(2), all);
        }
        x.say(0, 0, 3, 7);
        Due.is("cells of a carried one count", x.count(2), 36);
        x.free(0, 6);
        Due.is("count(2)", x.count(2), 29);
        x.close(1, 1);
        Due.is("count(2)", x.count(2), 21);
        x.kill(0);
        Due.is("count(2)", x.count(2), 0);
    }

    private static void ends() {
        ExchangeSystem x = Due.system(2, "1E!1");
        for (int c = 1; c <= 6; c++) {
            x.open(0, c == 1 ? 1 : 0, 0);
            Due.is("count(3)", x.count(3), 2 * c);
        }
        x.say(0, 0, 6, 11);
        Due.is("a carried one is open", x.count(3), 12);
        x.close(0, 3);
        Due.is("count(3)", x.count(3), 11);
        x.kill(1);
        Due.is("count(3)", x.count(3), 9);
        x.kill(0);
        Due.is("count(3)", x.count(3), 0);
    }

    private static void messages() {
        ExchangeSystem x = Due.system(1, "1a!1,1b?1");
        Due.openOwn(x, 6);
        int all = 0;
        for (int e = 0; e < 12; e++) {
            for (int m = 0; m < 3; m++) {
                x.say(0, e, e & 1, 0);
                all++;
            }
            Due.is("count(4)", x.count(4), all);
        }
        Due.notYours("a full queue", () -> x.say(0, 0, 0, 0));
        Due.is("count(4), all queues full", x.count(4), 36);
        x.hear(0, 5);
        Due.is("count(4)", x.count(4), 35);
        x.close(0, 0);
        Due.is("count(4)", x.count(4), 32);
        x.kill(0);
        Due.is("count(4)", x.count(4), 0);
    }

    private static ExchangeSystem afterTalk() {
        ExchangeSystem x = Due.system(2, "1a!1,1A!1");
        x.open(0, 1, 0);
        x.block(1, 1);
        for (int m = 0; m < 20; m++) {
            x.say(0, 0, 0, m);
            x.hear(1, 1);
        }
        for (int m = 0; m < 3; m++) {
            x.say(0, 0, 0, m);
        }
        return x;
    }

    private static void said() {
        ExchangeSystem x = afterTalk();
        Due.is("count(5)", x.count(5), 23);
        Due.notYours("a full queue", () -> x.say(0, 0, 0, 0));
        Due.notYours("a forbidden letter", () -> x.say(0, 0, 1, 0));
        Due.notYours("another's block", () -> x.say(0, 0, 3, 0));
        Due.bad("no letter", () -> x.say(0, 0, 7, 0));
        Due.is("count(5) behind refused ones", x.count(5), 23);
        x.close(1, 1);
        Due.none("a closed end", () -> x.say(0, 0, 0, 0));
        x.kill(0);
        Due.is("count(5) behind close and kill", x.count(5), 23);
    }

    private static void heard() {
        ExchangeSystem x = afterTalk();
        Due.is("count(6)", x.count(6), 20);
        Due.none("an empty queue", () -> x.hear(0, 0));
        Due.notYours("another's end", () -> x.hear(0, 1));
        Due.bad("no end", () -> x.hear(0, 12));
        Due.is("count(6) behind refused ones", x.count(6), 20);
        x.hear(1, 1);
        Due.is("count(6)", x.count(6), 21);
        x.close(1, 1);
        Due.is("what is dropped isn't heard", x.count(6), 21);
    }

    private static void dropped() {
        ExchangeSystem x = afterTalk();
        x.close(0, 0);
        Due.is("close with an empty queue", x.count(7), 0);
        x.close(1, 1);
        Due.is("close with three", x.count(7), 3);
        x.open(0, 1, 0);
        x.say(0, 0, 0, 0);
        x.say(0, 0, 0, 0);
        x.kill(0);
        Due.is("kill the sayer", x.count(7), 3);
        x.kill(1);
        Due.is("kill the hearer", x.count(7), 5);
    }

    private static void killed() {
        ExchangeSystem x = new ExchangeSystem();
        for (int kill = 1; kill <= 20; kill++) {
            x.kill(0);
            Due.is("count(8)", x.count(8), kill);
            Due.notYours("kill a dead one", () -> x.kill(0));
            Due.bad("kill none", () -> x.kill(4));
            x.start();
            Due.is("count(8)", x.count(8), kill);
        }
    }

    private static void contracts() {
        ExchangeSystem x = new ExchangeSystem();
        int[] numbers = {2, 0, 3, 1};
        for (int i = 0; i < 4; i++) {
            Due.contract(x, numbers[i], "1a!1");
            Due.is("count(9)", x.count(9), i + 1);
            Due.contract(x, numbers[i], "1a!1,1b!1");
            Due.is("the same number again", x.count(9), i + 1);
            Due.bad("no contract", () -> x.contract(3));
            Due.is("count(9)", x.count(9), i + 1);
        }
    }

    private static void anythingElse() {
        ExchangeSystem x = afterTalk();
        int[] others = {-1, -2, 10, 11, 16, 100, 256, Integer.MIN_VALUE, Integer.MAX_VALUE};
        for (int what : others) {
            Due.is("count(" + what + ")", x.count(what), -1);
        }
    }

    private static void inOneRun() {
        ExchangeSystem x = new ExchangeSystem();
        counts("a new object", x, 1, 0, 0, 0, 0, 0, 0, 0, 0, 0);
        Due.contract(x, 2, "1a!1,1A!1,1E!1");
        Due.contract(x, 0, "1a!1");
        x.start();
        x.start();
        counts("contracts and processes", x, 3, 0, 0, 0, 0, 0, 0, 0, 0, 2);
        x.block(0, 3);
        x.block(1, 8);
        counts("blocks", x, 3, 2, 11, 0, 0, 0, 0, 0, 0, 2);
        x.open(0, 1, 2);
        x.open(0, 2, 2);
        counts("channels", x, 3, 2, 11, 4, 0, 0, 0, 0, 0, 2);
        x.say(0, 0, 0, 0);
        x.say(0, 0, 3, 0);
        x.say(0, 0, 6, 2);
        counts("messages", x, 3, 2, 11, 4, 3, 3, 0, 0, 0, 2);
        x.hear(1, 1);
        counts("one heard", x, 3, 2, 11, 4, 2, 3, 1, 0, 0, 2);
        x.kill(1);
        counts("one killed", x, 2, 0, 0, 2, 0, 3, 1, 2, 1, 2);
        x.start();
        counts("one started", x, 3, 0, 0, 2, 0, 3, 1, 2, 1, 2);
        x.kill(1);
        x.kill(0);
        counts("killed again", x, 1, 0, 0, 1, 0, 3, 1, 2, 3, 2);
    }

    private static void counts(String when, ExchangeSystem x, int... want) {
        for (int what = 0; what <= 9; what++) {
            Due.is("count(" + what + ") behind " + when, x.count(what), want[what]);
        }
    }
}
