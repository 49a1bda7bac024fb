/** Promise 1, and what "Terms" says of "at first". */
public final class NewObjectTest {
    public static void main(String[] args) {
        Due.sentence("One process ALIVE.", NewObjectTest::oneProcessAlive);
        Due.sentence("0 is ALIVE at first.", NewObjectTest::zeroIsAlive);
        Due.sentence("CONTRACTS 0 .. 3 are none at first.", NewObjectTest::noContracts);
        Due.sentence("BLOCKS 0 .. 11 each are free.", NewObjectTest::blocksAreFree);
        Due.sentence("A CHANNEL is free if both its ENDS are CLOSED (at first).", NewObjectTest::endsAreClosed);
        Due.sentence("The text is empty at first.", NewObjectTest::noText);
        Due.sentence("Nothing was said, heard, DROPPED or KILLED.", NewObjectTest::nothingHappened);
        Due.sentence("Each object is by itself.", NewObjectTest::objectsAreApart);
        Due.end();
    }

    private static void oneProcessAlive() {
        ExchangeSystem x = new ExchangeSystem();
        Due.is("count(0)", x.count(0), 1);
        for (int p = 1; p < 4; p++) {
            int process = p;
            Due.notYours("block for process " + p, () -> x.block(process, 1));
            Due.notYours("kill(" + p + ")", () -> x.kill(process));
        }
        Due.is("start()", x.start(), 1);
    }

    private static void zeroIsAlive() {
        ExchangeSystem x = new ExchangeSystem();
        Due.is("block(0, 1)", x.block(0, 1), 0);
        Due.is("kill(0)", x.kill(0), 1);
    }

    private static void noContracts() {
        ExchangeSystem x = new ExchangeSystem();
        Due.is("count(9)", x.count(9), 0);
        for (int k = 0; k < 4; k++) {
            int number = k;
            Due.none("open with contract " + k, () -> x.open(0, 0, number));
        }
    }

    private static void blocksAreFree() {
        ExchangeSystem x = new ExchangeSystem();
        Due.is("count(1)", x.count(1), 0);
        Due.is("count(2)", x.count(2), 0);
        for (int b = 0; b < 12; b++) {
            int number = b;
            Due.is("ofBlock(" + b + ", 0)", x.ofBlock(b, 0), -1);
            Due.is("ofBlock(" + b + ", 1)", x.ofBlock(b, 1), 0);
            Due.notYours("free(0, " + b + ")", () -> x.free(0, number));
        }
    }

    private static void endsAreClosed() {
        ExchangeSystem x = new ExchangeSystem();
        Due.is("count(3)", x.count(3), 0);
        for (int e = 0; e < 12; e++) {
            int number = e;
            Due.is("ofEnd(" + e + ", 0)", x.ofEnd(e, 0), -1);
            Due.is("ofEnd(" + e + ", 1)", x.ofEnd(e, 1), 0);
            Due.is("ofEnd(" + e + ", 2)", x.ofEnd(e, 2), 0);
            Due.notYours("close(0, " + e + ")", () -> x.close(0, number));
        }
        Due.contract(x, 0, "1a!1");
        for (int c = 0; c < 6; c++) {
            Due.is("open", x.open(0, 0, 0), c);
        }
    }

    private static void noText() {
        ExchangeSystem x = new ExchangeSystem();
        Due.is("type(0)", x.type(0), 0);
        Due.bad("contract(0)", () -> x.contract(0));
    }

    private static void nothingHappened() {
        ExchangeSystem x = new ExchangeSystem();
        for (int what = 4; what <= 8; what++) {
            Due.is("count(" + what + ")", x.count(what), 0);
        }
    }

    private static void objectsAreApart() {
        ExchangeSystem one = Due.system(2, "1a!1");
        ExchangeSystem other = new ExchangeSystem();
        one.type(Due.eight("1b!1"));
        one.block(0, 3);
        one.open(0, 1, 0);
        one.say(0, 0, 0, 0);
        Due.same("another object", Due.picture(other), Due.picture(new ExchangeSystem()));
        Due.none("the other's contract 0", () -> other.open(0, 0, 0));
    }
}
