/** Promise 5, and what "Terms" says of KILLING. */
public final class KillTest {
    public static void main(String[] args) {
        Due.sentence("p out of range: bad.", KillTest::outOfRange);
        Due.sentence("It isn't ALIVE: not yours.", KillTest::notAlive);
        Due.sentence("KILLING a process: it's not ALIVE.", KillTest::notAliveThen);
        Due.sentence("A process with nothing: 0.", KillTest::withNothing);
        Due.sentence("The last process may be KILLED.", KillTest::theLast);
        Due.sentence("Its BLOCKS are freed.", KillTest::blocksAreFreed);
        Due.sentence("Its ENDS are CLOSED.", KillTest::endsAreClosed);
        Due.sentence("Others keep theirs.", KillTest::othersKeepTheirs);
        Due.sentence("Those of MESSAGES too.", KillTest::whatMessagesCarry);
        Due.sentence("Those of MESSAGES in the QUEUES of carried ENDS too.", KillTest::chains);
        Due.sentence("What it sent is the MESSAGE's, and stays.", KillTest::whatItSent);
        Due.sentence("Answers how many BLOCKS and ENDS were freed and CLOSED.", KillTest::answers);
        Due.sentence("ENDS that are carried only in each other's QUEUES stay OPEN.", KillTest::rings);
        Due.sentence("And their CHANNELS are not free.", KillTest::channelsOfRings);
        Due.end();
    }

    private static void outOfRange() {
        ExchangeSystem x = Due.system(4, "1a!1");
        for (int p : Due.outside(0, 3)) {
            Due.bad("kill(" + p + ")", () -> x.kill(p));
        }
        Due.is("count(0)", x.count(0), 4);
        Due.is("count(8)", x.count(8), 0);
    }

    private static void notAlive() {
        ExchangeSystem x = new ExchangeSystem();
        for (int p = 1; p < 4; p++) {
            int process = p;
            Due.notYours("kill(" + p + ")", () -> x.kill(process));
        }
        Due.is("kill(0)", x.kill(0), 0);
        Due.notYours("kill(0) twice", () -> x.kill(0));
        Due.is("count(8)", x.count(8), 1);
    }

    private static void notAliveThen() {
        for (int p = 0; p < 4; p++) {
            ExchangeSystem x = Due.system(4, "1a!1");
            int process = p;
            x.kill(p);
            Due.is("count(0)", x.count(0), 3);
            Due.notYours("block", () -> x.block(process, 1));
            Due.notYours("choose", () -> x.choose(process, 0));
            Due.is("start()", x.start(), p);
            Due.is("block", x.block(p, 1), 0);
        }
    }

    private static void withNothing() {
        ExchangeSystem x = Due.system(2, "1a!1");
        x.block(0, 1);
        x.open(0, 0, 0);
        x.say(0, 0, 0, 0);
        Due.is("kill(1)", x.kill(1), 0);
        Due.is("count(7)", x.count(7), 0);
    }

    private static void theLast() {
        ExchangeSystem x = new ExchangeSystem();
        x.block(0, 4);
        Due.is("kill(0)", x.kill(0), 1);
        Due.is("count(0)", x.count(0), 0);
        Due.is("count(8)", x.count(8), 1);
        Due.notYours("block", () -> x.block(0, 1));
    }

    private static void blocksAreFreed() {
        ExchangeSystem x = new ExchangeSystem();
        Due.handOut(x, 0, 12, 4);
        x.write(0, 0, 3, 8);
        Due.is("kill(0)", x.kill(0), 12);
        Due.is("count(1)", x.count(1), 0);
        Due.is("count(2)", x.count(2), 0);
        for (int b = 0; b < 12; b++) {
            Due.is("owner", x.ofBlock(b, 0), -1);
            Due.is("cells", x.ofBlock(b, 1), 0);
        }
        x.start();
        Due.is("block", x.block(0, 8), 0);
        Due.is("its cells are gone", x.read(0, 0, 3), 0);
    }

    private static void endsAreClosed() {
        ExchangeSystem x = Due.system(1, "1a!1");
        Due.openOwn(x, 6);
        Due.is("kill(0)", x.kill(0), 12);
        Due.is("count(3)", x.count(3), 0);
        for (int e = 0; e < 12; e++) {
            Due.is("owner", x.ofEnd(e, 0), -1);
            Due.is("state", x.ofEnd(e, 1), 0);
        }
        x.start();
        Due.is("all channels are free", x.open(0, 0, 0), 0);
    }

    private static void othersKeepTheirs() {
        ExchangeSystem x = Due.system(2, "1a!1,1b?1");
        x.block(1, 2);
        x.block(0, 3);
        x.block(1, 4);
        x.open(1, 0, 0);
        x.open(0, 1, 0);
        x.open(1, 1, 0);
        x.say(1, 0, 0, 6);
        x.kill(1);
        Due.is("count(1)", x.count(1), 1);
        Due.is("count(2)", x.count(2), 3);
        Due.is("count(3)", x.count(3), 2);
        Due.is("the other's block", x.ofBlock(1, 0), 0);
        Due.is("the other's end 1", x.ofEnd(1, 0), 0);
        Due.is("the other's end 2", x.ofEnd(2, 0), 0);
        Due.none("say to a closed end", () -> x.say(0, 2, 0, 0));
        Due.is("hear what the killed one said", x.hear(0, 1), 6);
        Due.is("the free channel", x.open(0, 0, 0), 2);
        Due.is("the free block", x.block(0, 1), 0);
    }

    private static void whatMessagesCarry() {
        ExchangeSystem x = Due.system(2, "1A!1,1E!1,1a!1");
        x.open(0, 1, 0);
        x.open(0, 0, 0);
        x.block(0, 5);
        x.say(0, 0, 3, 0);
        x.say(0, 0, 6, 2);
        x.say(0, 0, 0, 9);
        Due.is("kill(1)", x.kill(1), 3);
        Due.is("count(4)", x.count(4), 0);
        Due.is("count(7)", x.count(7), 3);
        Due.is("the block", x.ofBlock(0, 0), -1);
        Due.is("the end", x.ofEnd(2, 0), -1);
        Due.is("its other end", x.ofEnd(3, 0), 0);
    }

    private static void chains() {
        ExchangeSystem x = Due.system(2, "1E!1,1A!1");
        x.open(0, 1, 0);
        for (int c = 1; c < 6; c++) {
            x.open(0, 0, 0);
        }
        x.block(0, 8);
        x.say(0, 10, 3, 0);
        for (int c = 4; c >= 0; c--) {
            x.say(0, 2 * c, 6, 2 * c + 3);
        }
        Due.is("count(4)", x.count(4), 6);
        Due.is("kill(1) with a chain of six ends and a block", x.kill(1), 7);
        Due.is("count(3)", x.count(3), 6);
        Due.is("count(7)", x.count(7), 6);
        Due.is("kill(0)", x.kill(0), 6);
        Due.is("count(3)", x.count(3), 0);
    }

    private static void whatItSent() {
        ExchangeSystem x = Due.system(2, "1A!1,1E!1");
        x.open(0, 1, 0);
        x.open(0, 0, 0);
        x.block(0, 2);
        x.write(0, 0, 1, 44);
        x.say(0, 0, 3, 0);
        x.say(0, 0, 6, 2);
        Due.is("kill(0)", x.kill(0), 2);
        Due.is("the block is the message's", x.ofBlock(0, 0), 4);
        Due.is("the end is the message's", x.ofEnd(2, 0), 4);
        Due.is("hear the block", x.hear(1, 1), 48);
        Due.is("read", x.read(1, 0, 1), 44);
        Due.is("hear the end", x.hear(1, 1), 98);
        Due.is("the end", x.ofEnd(2, 0), 1);
    }

    private static void answers() {
        ExchangeSystem x = Due.system(3, "1A!1,1E!1");
        Due.handOut(x, 1, 3, 1);
        Due.handOut(x, 2, 2, 1);
        x.open(1, 2, 0);
        x.open(1, 2, 0);
        x.open(1, 1, 0);
        x.say(1, 0, 3, 0);
        x.say(1, 2, 6, 4);
        Due.is("kill(2): blocks 3 and 4, ends 1 and 3, and what they were sent", x.kill(2), 6);
        Due.is("kill(1): blocks 1 and 2, ends 0, 2 and 5", x.kill(1), 5);
        Due.is("kill(0): nothing", x.kill(0), 0);
        Due.is("count(8)", x.count(8), 3);
    }

    /** Process 0 was killed when the ends 1 and 3 were in each other's queues, with a block. */
    private static ExchangeSystem withRingLeft() {
        ExchangeSystem x = Due.system(1, "1E!1,1A!1");
        Due.openOwn(x, 2);
        x.block(0, 4);
        x.say(0, 0, 3, 0);
        x.say(0, 0, 6, 3);
        x.say(0, 2, 6, 1);
        Due.is("kill(0)", x.kill(0), 2);
        return x;
    }

    private static void rings() {
        ExchangeSystem x = withRingLeft();
        Due.is("end 1 stays open", x.ofEnd(1, 0), 4);
        Due.is("end 3 stays open", x.ofEnd(3, 0), 4);
        Due.is("its messages", x.ofEnd(1, 2), 2);
        Due.is("the block in the ring", x.ofBlock(0, 0), 4);
        Due.is("count(2)", x.count(2), 4);
        Due.is("count(3)", x.count(3), 2);
        Due.is("count(4)", x.count(4), 3);
        Due.is("count(7)", x.count(7), 0);
    }

    private static void channelsOfRings() {
        ExchangeSystem x = withRingLeft();
        x.start();
        for (int c = 2; c < 6; c++) {
            Due.is("open", x.open(0, 0, 0), c);
        }
        Due.noRoom("open", () -> x.open(0, 0, 0));
        Due.is("a block outside the ring", x.block(0, 1), 1);
    }
}
