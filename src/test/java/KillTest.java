/** Promise 5, and KILLING under "Terms". */
public final class KillTest {
    public static void main(String[] args) {
        wrongProcesses();
        blocksAndEndsGo();
        whatMessagesCarryGoesToo();
        whatWasSentIsNotLeftBehind();
        chainsGoWhole();
        ringsStay();
        Due.end();
    }

    private static void wrongProcesses() {
        ExchangeSystem x = new ExchangeSystem();
        int[] wrong = {-1, 4, Integer.MIN_VALUE, Integer.MAX_VALUE};
        for (int p : wrong) {
            Due.bad("kill(" + p + ")", () -> x.kill(p));
        }
        Due.notYours("kill(1)", () -> x.kill(1));
        Due.is("count(8)", x.count(8), 0);
        Due.is("kill(0)", x.kill(0), 0);
        Due.notYours("kill(0) twice", () -> x.kill(0));
        Due.is("count(0)", x.count(0), 0);
        Due.is("count(8)", x.count(8), 1);
    }

    private static void blocksAndEndsGo() {
        ExchangeSystem x = Due.system(2, "1a!1,1b?1");
        x.block(1, 2);
        x.block(0, 3);
        x.block(1, 4);
        x.open(1, 0, 0);
        x.open(0, 1, 0);
        x.open(1, 1, 0);
        Due.is("kill(1)", x.kill(1), 6);
        Due.is("count(1)", x.count(1), 1);
        Due.is("count(2)", x.count(2), 3);
        Due.is("count(3)", x.count(3), 2);
        Due.is("the other's block", x.ofBlock(1, 0), 0);
        Due.is("the other's end 1", x.ofEnd(1, 0), 0);
        Due.is("the other's end 2", x.ofEnd(2, 0), 0);
        Due.none("say to a closed end", () -> x.say(0, 2, 0, 0));
        Due.is("the free channel", x.open(0, 0, 0), 2);
        Due.is("the free block", x.block(0, 1), 0);
    }

    private static void whatMessagesCarryGoesToo() {
        ExchangeSystem x = Due.system(2, "1A!1,1E!1,1a!1");
        x.open(0, 1, 0);
        x.open(0, 0, 0);
        x.block(0, 5);
        x.say(0, 0, 3, 0);
        x.say(0, 0, 6, 2);
        x.say(0, 0, 0, 9);
        Due.is("kill(1)", x.kill(1), 3);
        Due.is("count(7)", x.count(7), 3);
        Due.is("count(4)", x.count(4), 0);
        Due.is("the block", x.ofBlock(0, 0), -1);
        Due.is("the end", x.ofEnd(2, 0), -1);
        Due.is("its other end", x.ofEnd(3, 0), 0);
    }

    private static void whatWasSentIsNotLeftBehind() {
        ExchangeSystem x = Due.system(2, "1A!1,1E!1");
        x.open(0, 1, 0);
        x.open(0, 0, 0);
        x.block(0, 2);
        x.write(0, 0, 1, 44);
        x.say(0, 0, 3, 0);
        x.say(0, 0, 6, 2);
        Due.is("kill(0)", x.kill(0), 2);
        Due.is("the block is the message's", x.ofBlock(0, 0), 4);
        Due.is("the end is the message's", x.ofEnd(2, 0), 4);
        Due.is("hear the block", x.hear(1, 1), 48);
        Due.is("read", x.read(1, 0, 1), 44);
        Due.is("hear the end", x.hear(1, 1), 98);
        Due.is("the end", x.ofEnd(2, 0), 1);
    }

    private static void chainsGoWhole() {
        ExchangeSystem x = Due.system(1, "1E!1,1A!1");
        x.start();
        x.open(0, 1, 0);
        for (int c = 1; c < 6; c++) {
            x.open(0, 0, 0);
        }
        x.block(0, 8);
        x.say(0, 10, 3, 0);
        for (int c = 4; c >= 0; c--) {
            x.say(0, 2 * c, 6, 2 * c + 3);
        }
        Due.is("count(4)", x.count(4), 6);
        Due.is("kill(1) with a chain of six ends and a block", x.kill(1), 7);
        Due.is("count(3)", x.count(3), 6);
        Due.is("count(7)", x.count(7), 6);
        Due.is("kill(0)", x.kill(0), 6);
        Due.is("open", x.count(3), 0);
    }

    private static void ringsStay() {
        ExchangeSystem x = Due.system(1, "1E!1,1A!1");
        x.open(0, 0, 0);
        x.open(0, 0, 0);
        x.block(0, 4);
        x.say(0, 0, 3, 0);
        x.say(0, 0, 6, 3);
        x.say(0, 2, 6, 1);
        Due.is("kill(0)", x.kill(0), 2);
        Due.is("end 1 stays open", x.ofEnd(1, 0), 4);
        Due.is("end 3 stays open", x.ofEnd(3, 0), 4);
        Due.is("its messages", x.ofEnd(1, 2), 2);
        Due.is("the block in the ring", x.ofBlock(0, 0), 4);
        Due.is("count(2)", x.count(2), 4);
        Due.is("count(3)", x.count(3), 2);
        Due.is("count(4)", x.count(4), 3);
        Due.is("count(7)", x.count(7), 0);
        x.start();
        for (int c = 2; c < 6; c++) {
            Due.is("the ring's channels are not free", x.open(0, 0, 0), c);
        }
        Due.noRoom("open", () -> x.open(0, 0, 0));
    }
}
