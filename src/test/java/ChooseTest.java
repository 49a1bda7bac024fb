/** Promise 13. */
public final class ChooseTest {
    public static void main(String[] args) {
        Due.sentence("The least END of the mask.", ChooseTest::theLeast);
        Due.sentence("Of the mask: no other.", ChooseTest::onlyOfTheMask);
        Due.sentence("The mask (0 .. 4095): too small or too large is bad.", ChooseTest::maskOutOfRange);
        Due.sentence("p out of range: bad.", ChooseTest::processOutOfRange);
        Due.sentence("That p OWNS.", ChooseTest::onlyOwned);
        Due.sentence("And that has a MESSAGE.", ChooseTest::onlyWithMessages);
        Due.sentence("None of them has: none.", ChooseTest::noneHas);
        Due.sentence("The empty mask: none.", ChooseTest::emptyMask);
        Due.sentence("A process that isn't ALIVE: not yours.", ChooseTest::notAlive);
        Due.sentence("It takes no MESSAGE, and the contract has no say in it.", ChooseTest::takesNothing);
        Due.end();
    }

    /** One process owns all twelve ends, and each has a message. */
    private static ExchangeSystem allWaiting() {
        ExchangeSystem x = Due.system(1, "1a!1,1b?1");
        Due.openOwn(x, 6);
        for (int e = 0; e < 12; e++) {
            x.say(0, e, e & 1, 0);
        }
        return x;
    }

    private static void theLeast() {
        ExchangeSystem x = allWaiting();
        for (int e = 0; e < 12; e++) {
            Due.is("choose(0, 4095)", x.choose(0, 4095), e);
            x.hear(0, e);
        }
        for (int e = 11; e >= 0; e--) {
            x.say(0, e ^ 1, e & 1 ^ 1, 0);
            Due.is("choose(0, 4095)", x.choose(0, 4095), e);
        }
    }

    private static void onlyOfTheMask() {
        ExchangeSystem x = allWaiting();
        for (int e = 0; e < 12; e++) {
            Due.is("the mask of one", x.choose(0, 1 << e), e);
            Due.is("the mask from one on", x.choose(0, 4095 << e & 4095), e);
            Due.is("the mask of one and the last", x.choose(0, 1 << e | 2048), e);
        }
        x.hear(0, 3);
        Due.none("the mask of an empty one", () -> x.choose(0, 8));
    }

    private static void maskOutOfRange() {
        ExchangeSystem x = allWaiting();
        for (int mask : Due.outside(0, 4095)) {
            Due.bad("choose(0, " + mask + ")", () -> x.choose(0, mask));
            Due.bad("choose(1, " + mask + ") of a dead process", () -> x.choose(1, mask));
        }
        Due.bad("choose(0, 4097)", () -> x.choose(0, 4097));
        Due.is("choose(0, 4095)", x.choose(0, 4095), 0);
    }

    private static void processOutOfRange() {
        ExchangeSystem x = allWaiting();
        for (int p : Due.outside(0, 3)) {
            Due.bad("choose(" + p + ", 1)", () -> x.choose(p, 1));
            Due.bad("choose(" + p + ", 0)", () -> x.choose(p, 0));
        }
    }

    private static void onlyOwned() {
        ExchangeSystem x = Due.system(2, "1a!1,1E!1");
        x.open(0, 1, 0);
        x.open(0, 0, 0);
        x.open(0, 0, 0);
        x.say(0, 0, 0, 0);
        x.say(0, 2, 0, 0);
        x.say(0, 4, 0, 0);
        Due.is("not another's", x.choose(0, 4095), 3);
        Due.is("one's own", x.choose(1, 4095), 1);
        Due.none("only another's", () -> x.choose(0, 2));
        Due.none("only others' of a lesser number", () -> x.choose(1, 4093));
        x.say(0, 0, 6, 3);
        Due.is("not a carried one", x.choose(0, 4095), 5);
        Due.none("only a carried one", () -> x.choose(0, 8));
        Due.none("only a carried one, by its hearer", () -> x.choose(1, 8));
        x.hear(1, 1);
        x.hear(1, 1);
        Due.is("one that was heard", x.choose(1, 4095), 3);
        x.close(0, 5);
        Due.none("not a closed one", () -> x.choose(0, 4095));
        x.close(0, 2);
        Due.is("one whose other end is closed", x.choose(1, 4095), 3);
    }

    private static void onlyWithMessages() {
        ExchangeSystem x = Due.system(1, "1a!1");
        Due.openOwn(x, 6);
        x.say(0, 8, 0, 0);
        Due.is("choose(0, 4095)", x.choose(0, 4095), 9);
        x.say(0, 2, 0, 0);
        Due.is("choose(0, 4095)", x.choose(0, 4095), 3);
        x.hear(0, 3);
        Due.is("choose(0, 4095)", x.choose(0, 4095), 9);
        x.hear(0, 9);
        Due.none("choose(0, 4095)", () -> x.choose(0, 4095));
    }

    private static void noneHas() {
        ExchangeSystem x = Due.system(1, "1a!1");
        Due.none("no end is open", () -> x.choose(0, 4095));
        Due.openOwn(x, 6);
        for (int e = 0; e < 12; e++) {
            int mask = 1 << e;
            Due.none("no messages", () -> x.choose(0, mask));
        }
        Due.none("no messages", () -> x.choose(0, 4095));
    }

    private static void emptyMask() {
        Due.none("all have messages", () -> allWaiting().choose(0, 0));
        Due.none("a new object", () -> new ExchangeSystem().choose(0, 0));
    }

    private static void notAlive() {
        ExchangeSystem x = allWaiting();
        for (int p = 1; p < 4; p++) {
            int process = p;
            Due.notYours("a process that never was", () -> x.choose(process, 4095));
            Due.notYours("the empty mask", () -> x.choose(process, 0));
        }
        x.kill(0);
        Due.notYours("a killed one", () -> x.choose(0, 4095));
    }

    private static void takesNothing() {
        ExchangeSystem x = Due.system(1, "1a!2,1b?3");
        x.open(0, 0, 0);
        x.say(0, 0, 0, 1);
        x.say(0, 1, 1, 2);
        Due.notYours("what the contract forbids", () -> x.hear(0, 0));
        Due.is("choose", x.choose(0, 4095), 0);
        Due.is("choose again", x.choose(0, 4095), 0);
        Due.is("count(4)", x.count(4), 2);
        Due.is("count(6)", x.count(6), 0);
    }
}
