/** Promise 4. */
public final class StartTest {
    public static void main(String[] args) {
        Due.sentence("The least process that isn't ALIVE is.", StartTest::theLeast);
        Due.sentence("0 too, if it isn't ALIVE.", StartTest::zeroAgain);
        Due.sentence("With nothing.", StartTest::withNothing);
        Due.sentence("None: no room.", StartTest::noRoom);
        Due.sentence("Answers its number.", StartTest::answersItsNumber);
        Due.end();
    }

    private static void theLeast() {
        ExchangeSystem x = Due.system(4, "1a!1");
        x.kill(3);
        x.kill(1);
        x.kill(2);
        Due.is("start()", x.start(), 1);
        Due.notYours("2 is not alive yet", () -> x.block(2, 1));
        Due.notYours("3 is not alive yet", () -> x.block(3, 1));
        Due.is("block(1, 1)", x.block(1, 1), 0);
        x.kill(1);
        Due.is("start()", x.start(), 1);
        Due.is("start()", x.start(), 2);
        Due.is("start()", x.start(), 3);
    }

    private static void zeroAgain() {
        ExchangeSystem x = Due.system(2, "1a!1");
        x.kill(0);
        Due.is("start() with 1 alive", x.start(), 0);
        x.kill(0);
        x.kill(1);
        Due.is("count(0) with none alive", x.count(0), 0);
        Due.is("start() with none alive", x.start(), 0);
        Due.is("count(0)", x.count(0), 1);
    }

    private static void withNothing() {
        ExchangeSystem x = Due.system(2, "1A!1,1E!1");
        x.open(1, 0, 0);
        x.open(1, 1, 0);
        Due.handOut(x, 1, 3, 2);
        x.say(1, 0, 3, 1);
        x.say(1, 0, 6, 2);
        x.kill(1);
        x.start();
        for (int b = 0; b < 3; b++) {
            int number = b;
            Due.notYours("a block it had before", () -> x.read(1, number, 0));
        }
        Due.is("what it sent is the message's", x.ofBlock(1, 0), 4);
        Due.is("what it sent is the message's", x.ofEnd(2, 0), 4);
        for (int e = 0; e < 4; e++) {
            int number = e;
            Due.notYours("an end it had before", () -> x.close(1, number));
        }
        Due.is("kill(1)", x.kill(1), 0);
    }

    private static void noRoom() {
        ExchangeSystem x = Due.system(4, "1a!1");
        Due.noRoom("start() with all alive", x::start);
        Due.is("count(0)", x.count(0), 4);
        x.kill(3);
        Due.is("start()", x.start(), 3);
        Due.noRoom("start() with all alive again", x::start);
    }

    private static void answersItsNumber() {
        ExchangeSystem x = new ExchangeSystem();
        for (int p = 1; p < 4; p++) {
            Due.is("start()", x.start(), p);
            Due.is("count(0)", x.count(0), p + 1);
        }
    }
}
