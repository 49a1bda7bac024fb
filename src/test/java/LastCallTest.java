/** "An object is used for at most 512 calls": the last of them answers as the first. */
public final class LastCallTest {
    public static void main(String[] args) {
        Due.sentence("512 calls: type and contract.", LastCallTest::contracts);
        Due.sentence("512 calls: start and kill.", LastCallTest::kills);
        Due.sentence("512 calls: block, write and free.", LastCallTest::blocks);
        Due.sentence("512 calls: say and hear.", LastCallTest::talk);
        Due.sentence("512 calls: open, say and close.", LastCallTest::channels);
        Due.sentence("512 calls: refused ones.", LastCallTest::refused);
        Due.end();
    }

    private static void contracts() {
        ExchangeSystem x = new ExchangeSystem();
        for (int pair = 0; pair < 256; pair++) {
            Due.is("type", x.type(Due.eight("1a!1")), 4);
            Due.is("contract", x.contract(pair & 3), 1);
        }
    }

    private static void kills() {
        ExchangeSystem x = new ExchangeSystem();
        for (int pair = 0; pair < 255; pair++) {
            Due.is("kill", x.kill(0), 0);
            Due.is("start", x.start(), 0);
        }
        Due.is("count(8)", x.count(8), 255);
        Due.is("count(0)", x.count(0), 1);
    }

    private static void blocks() {
        ExchangeSystem x = new ExchangeSystem();
        for (int round = 0; round < 170; round++) {
            Due.is("block", x.block(0, 8), 0);
            x.write(0, 0, 7, round);
            x.free(0, 0);
        }
        Due.is("block", x.block(0, 8), 0);
        Due.is("read", x.read(0, 0, 7), 0);
    }

    private static void talk() {
        for (int what = 5; what <= 6; what++) {
            ExchangeSystem x = Due.system(1, "1a!2,2a!1");
            x.open(0, 0, 0);
            for (int pair = 0; pair < 253; pair++) {
                x.say(0, 0, 0, pair);
                Due.is("hear", x.hear(0, 1), pair & 15);
            }
            Due.is("state", x.ofEnd(1, 1), 2);
            Due.is("count(" + what + ")", x.count(what), 253);
        }
    }

    private static void channels() {
        ExchangeSystem x = Due.system(1, "1a!2");
        for (int round = 0; round < 127; round++) {
            Due.is("open", x.open(0, 0, 0), 0);
            x.say(0, 0, 0, 0);
            Due.is("close", x.close(0, 0), 1);
            Due.is("close", x.close(0, 1), 1);
        }
        Due.is("count(7)", x.count(7), 127);
        Due.is("open", x.open(0, 0, 0), 0);
    }

    private static void refused() {
        ExchangeSystem x = new ExchangeSystem();
        for (int call = 0; call < 511; call++) {
            Due.notYours("kill", () -> x.kill(1));
        }
        Due.is("kill", x.kill(0), 0);
    }
}
