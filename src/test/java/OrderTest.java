/** What "Terms" says of "bad", "not yours", "none" and "no room", and their order. */
public final class OrderTest {
    public static void main(String[] args) {
        Due.sentence("Bad comes first: before a process that isn't ALIVE.", OrderTest::badBeforeNotAlive);
        Due.sentence("Bad comes first: before a BLOCK or END that it doesn't OWN.", OrderTest::badBeforeNotOwned);
        Due.sentence("Bad comes first: before none.", OrderTest::badBeforeNone);
        Due.sentence("Bad comes first: before no room.", OrderTest::badBeforeNoRoom);
        Due.sentence("A process that isn't ALIVE: before none.", OrderTest::notAliveBeforeNone);
        Due.sentence("A process that isn't ALIVE: before no room.", OrderTest::notAliveBeforeNoRoom);
        Due.sentence("Not yours before none.", OrderTest::notYoursBeforeNone);
        Due.sentence("None before no room.", OrderTest::noneBeforeNoRoom);
        Due.sentence("None before a full QUEUE, which a CLOSED END can't have.", OrderTest::noneBeforeFullQueue);
        changesNothing();
        Due.end();
    }

    private static void changesNothing() {
        Due.sentence("What throws changes nothing: type.", OrderTest::refusedType);
        Due.sentence("What throws changes nothing: contract, if k is bad.", OrderTest::refusedContract);
        Due.sentence("What throws changes nothing: start.", OrderTest::refusedStart);
        Due.sentence("What throws changes nothing: kill.", OrderTest::refusedKill);
        Due.sentence("What throws changes nothing: block.", OrderTest::refusedBlock);
        Due.sentence("What throws changes nothing: free.", OrderTest::refusedFree);
        Due.sentence("What throws changes nothing: read.", OrderTest::refusedRead);
        Due.sentence("What throws changes nothing: write.", OrderTest::refusedWrite);
        Due.sentence("What throws changes nothing: open.", OrderTest::refusedOpen);
        Due.sentence("What throws changes nothing: say, by a wrong one or at a wrong END.", OrderTest::refusedSayer);
        Due.sentence("What throws changes nothing: say, with a wrong load.", OrderTest::refusedLoad);
        Due.sentence("What throws changes nothing: say, to a full QUEUE.", OrderTest::refusedByFullQueue);
        Due.sentence("What throws changes nothing: say, to a CLOSED END.", OrderTest::refusedByClosedEnd);
        Due.sentence("What throws changes nothing: hear.", OrderTest::refusedHear);
        Due.sentence("What throws changes nothing: choose.", OrderTest::refusedChoose);
        Due.sentence("What throws changes nothing: close.", OrderTest::refusedClose);
        Due.sentence("What throws changes nothing: ofBlock and ofEnd.", OrderTest::refusedLook);
    }

    /**
     * Processes 0 and 1 are alive. End 1's queue is full, with block 2 and end 6 in it; end 3 is
     * closed, its other end 2 is not; at end 5 the contract forbids to hear the waiting block 3.
     */
    private static ExchangeSystem busy() {
        ExchangeSystem x = Due.system(2, "1a!1,1A!1,1E!1,1b?2,2c!2,1c!4,1B!3");
        Due.type(x, "1a!1,");
        x.open(0, 1, 0);
        x.open(0, 1, 0);
        x.open(0, 0, 0);
        x.open(0, 0, 0);
        x.block(0, 2);
        x.block(1, 3);
        x.block(0, 4);
        x.block(0, 5);
        x.write(0, 0, 1, 77);
        x.write(0, 2, 3, 88);
        x.say(0, 0, 0, 1);
        x.say(0, 0, 3, 2);
        x.say(0, 0, 6, 6);
        x.close(1, 3);
        x.say(0, 5, 1, 9);
        x.say(0, 4, 3, 3);
        return x;
    }

    /** Four processes, six channels, twelve blocks and 36 characters: there is room for nothing. */
    private static ExchangeSystem full() {
        ExchangeSystem x = Due.system(4, "1a!1,1A!1,1E!1");
        Due.type(x, "1a!1,1b!1,1c!1,1A!1,1B!1,1C!1,1E!1,1");
        Due.openOwn(x, 6);
        Due.handOut(x, 0, 12, 1);
        return x;
    }

    /** 48 cells, but no more than six blocks. */
    private static ExchangeSystem fullOfCells() {
        ExchangeSystem x = new ExchangeSystem();
        Due.handOut(x, 0, 6, 8);
        return x;
    }

    private static void badBeforeNotAlive() {
        ExchangeSystem x = busy();
        Due.bad("block", () -> x.block(2, 0));
        Due.bad("block", () -> x.block(2, 9));
        Due.bad("free", () -> x.free(2, 12));
        Due.bad("read", () -> x.read(2, 12, 0));
        Due.bad("write", () -> x.write(2, -1, 0, 0));
        Due.bad("open, q", () -> x.open(2, 4, 0));
        Due.bad("open, p", () -> x.open(-1, 2, 0));
        Due.bad("open, k", () -> x.open(2, 3, 4));
        Due.bad("say, e", () -> x.say(2, 12, 0, 0));
        Due.bad("say, letter", () -> x.say(2, 0, 7, 0));
        Due.bad("hear", () -> x.hear(2, 12));
        Due.bad("choose", () -> x.choose(2, 4096));
        Due.bad("close", () -> x.close(2, -1));
    }

    private static void badBeforeNotOwned() {
        ExchangeSystem x = busy();
        Due.bad("read another's, p", () -> x.read(4, 1, 0));
        Due.bad("write another's, p", () -> x.write(-1, 1, 0, 0));
        Due.bad("free another's, p", () -> x.free(4, 1));
        Due.bad("say at another's end", () -> x.say(0, 1, 7, 0));
        Due.bad("say at a closed end", () -> x.say(0, 3, -1, 0));
        Due.bad("hear at a closed end, p", () -> x.hear(4, 3));
        Due.bad("close a closed end, p", () -> x.close(-1, 3));
    }

    private static void badBeforeNone() {
        ExchangeSystem x = busy();
        Due.bad("read no cell, b", () -> x.read(0, 12, 9));
        Due.bad("write no cell, p", () -> x.write(4, 0, 9, 0));
        Due.bad("open without a contract, p", () -> x.open(4, 0, 1));
        Due.bad("open without a contract, q", () -> x.open(0, -1, 1));
        Due.bad("say to a closed end", () -> x.say(0, 2, 7, 0));
        Due.bad("hear at an empty end, p", () -> x.hear(4, 0));
        Due.bad("choose none", () -> x.choose(4, 0));
    }

    private static void badBeforeNoRoom() {
        ExchangeSystem x = full();
        Due.bad("type", () -> x.type(32));
        Due.bad("block, n", () -> x.block(0, 9));
        Due.bad("block, p", () -> x.block(4, 1));
        Due.bad("open, p", () -> x.open(4, 0, 0));
        Due.bad("open, q", () -> x.open(0, 4, 0));
        Due.bad("open, k", () -> x.open(0, 0, 4));
        ExchangeSystem cells = fullOfCells();
        Due.bad("block, n", () -> cells.block(0, 0));
        Due.bad("block, n", () -> cells.block(0, 9));
    }

    private static void notAliveBeforeNone() {
        ExchangeSystem x = busy();
        Due.notYours("read no cell", () -> x.read(2, 0, 9));
        Due.notYours("write no cell", () -> x.write(2, 0, -1, 0));
        Due.notYours("open without a contract, p", () -> x.open(2, 0, 1));
        Due.notYours("open without a contract, q", () -> x.open(0, 2, 1));
        Due.notYours("say to a closed end", () -> x.say(2, 2, 0, 0));
        Due.notYours("hear at an empty end", () -> x.hear(2, 0));
        Due.notYours("choose none", () -> x.choose(2, 0));
    }

    private static void notAliveBeforeNoRoom() {
        ExchangeSystem x = full();
        x.kill(3);
        Due.notYours("block", () -> x.block(3, 1));
        Due.notYours("open, p", () -> x.open(3, 0, 0));
        Due.notYours("open, q", () -> x.open(0, 3, 0));
        ExchangeSystem cells = fullOfCells();
        Due.notYours("block", () -> cells.block(1, 1));
    }

    private static void notYoursBeforeNone() {
        ExchangeSystem x = busy();
        Due.notYours("no cell of another's block", () -> x.read(0, 1, 9));
        Due.notYours("no cell of a free block", () -> x.write(0, 11, 0, 0));
        Due.notYours("no cell of a carried block", () -> x.read(0, 2, 9));
        Due.notYours("an empty queue of another's end", () -> x.hear(1, 0));
        Due.notYours("an empty queue of a closed end", () -> x.hear(1, 3));
        Due.notYours("a forbidden letter to a closed end", () -> x.say(0, 2, 1, 0));
        Due.notYours("another's block to a closed end", () -> x.say(0, 2, 3, 1));
        Due.notYours("another's end to a closed end", () -> x.say(0, 2, 6, 1));
        Due.notYours("by another to a closed end", () -> x.say(1, 2, 0, 0));
    }

    private static void noneBeforeNoRoom() {
        ExchangeSystem x = full();
        for (int k = 1; k < 4; k++) {
            int number = k;
            Due.none("open without a contract", () -> x.open(0, 0, number));
        }
        Due.noRoom("open with one", () -> x.open(0, 0, 0));
    }

    private static void noneBeforeFullQueue() {
        ExchangeSystem x = busy();
        Due.notYours("a full queue", () -> x.say(0, 0, 0, 0));
        x.close(1, 1);
        Due.none("its end is closed now", () -> x.say(0, 0, 0, 0));
    }

    private static void refusedType() {
        Due.changesNothing("a bad one last", OrderTest::busy, x -> x.type(Due.eight("1b!1 ")));
        Due.changesNothing("a bad one first", OrderTest::busy, x -> x.type(Due.eight("\u007f1b!1")));
        Due.changesNothing("no room", OrderTest::full, x -> x.type(Due.eight("1b!1")));
    }

    private static void refusedContract() {
        for (int k : Due.outside(0, 3)) {
            Due.changesNothing("contract(" + k + ")", OrderTest::busy, x -> x.contract(k));
        }
    }

    private static void refusedStart() {
        Due.changesNothing("no room", OrderTest::full, ExchangeSystem::start);
    }

    private static void refusedKill() {
        Due.changesNothing("kill(-1)", OrderTest::busy, x -> x.kill(-1));
        Due.changesNothing("kill(4)", OrderTest::busy, x -> x.kill(4));
        Due.changesNothing("kill a dead one", OrderTest::busy, x -> x.kill(2));
    }

    private static void refusedBlock() {
        Due.changesNothing("no cells", OrderTest::busy, x -> x.block(0, 0));
        Due.changesNothing("nine cells", OrderTest::busy, x -> x.block(0, 9));
        Due.changesNothing("no process", OrderTest::busy, x -> x.block(4, 1));
        Due.changesNothing("a dead process", OrderTest::busy, x -> x.block(2, 1));
        Due.changesNothing("no free block", OrderTest::full, x -> x.block(0, 1));
        Due.changesNothing("above 48 cells", OrderTest::fullOfCells, x -> x.block(0, 1));
    }

    private static void refusedFree() {
        Due.changesNothing("no block", OrderTest::busy, x -> x.free(0, 12));
        Due.changesNothing("no process", OrderTest::busy, x -> x.free(-1, 0));
        Due.changesNothing("a dead process", OrderTest::busy, x -> x.free(2, 0));
        Due.changesNothing("another's", OrderTest::busy, x -> x.free(0, 1));
        Due.changesNothing("a carried one", OrderTest::busy, x -> x.free(0, 2));
        Due.changesNothing("a free one", OrderTest::busy, x -> x.free(0, 4));
    }

    private static void refusedRead() {
        Due.changesNothing("no block", OrderTest::busy, x -> x.read(0, 12, 0));
        Due.changesNothing("a dead process", OrderTest::busy, x -> x.read(2, 0, 0));
        Due.changesNothing("another's", OrderTest::busy, x -> x.read(0, 1, 0));
        Due.changesNothing("no cell", OrderTest::busy, x -> x.read(0, 0, 2));
    }

    private static void refusedWrite() {
        Due.changesNothing("no block", OrderTest::busy, x -> x.write(0, 12, 0, 5));
        Due.changesNothing("no process", OrderTest::busy, x -> x.write(4, 0, 0, 5));
        Due.changesNothing("a dead process", OrderTest::busy, x -> x.write(2, 0, 0, 5));
        Due.changesNothing("another's", OrderTest::busy, x -> x.write(0, 1, 0, 5));
        Due.changesNothing("a carried one", OrderTest::busy, x -> x.write(0, 2, 0, 5));
        Due.changesNothing("the cell behind the last", OrderTest::busy, x -> x.write(0, 0, 2, 5));
        Due.changesNothing("the cell before the first", OrderTest::busy, x -> x.write(0, 0, -1, 5));
    }

    private static void refusedOpen() {
        Due.changesNothing("no p", OrderTest::busy, x -> x.open(4, 0, 0));
        Due.changesNothing("no q", OrderTest::busy, x -> x.open(0, -1, 0));
        Due.changesNothing("no k", OrderTest::busy, x -> x.open(0, 0, 4));
        Due.changesNothing("p is dead", OrderTest::busy, x -> x.open(2, 0, 0));
        Due.changesNothing("q is dead", OrderTest::busy, x -> x.open(0, 2, 0));
        Due.changesNothing("no contract", OrderTest::busy, x -> x.open(0, 0, 1));
        Due.changesNothing("no room", OrderTest::full, x -> x.open(0, 0, 0));
    }

    private static void refusedSayer() {
        Due.changesNothing("no process", OrderTest::busy, x -> x.say(4, 4, 0, 0));
        Due.changesNothing("no end", OrderTest::busy, x -> x.say(0, 12, 0, 0));
        Due.changesNothing("no letter", OrderTest::busy, x -> x.say(0, 4, 7, 0));
        Due.changesNothing("a dead process", OrderTest::busy, x -> x.say(2, 4, 0, 0));
        Due.changesNothing("another's end", OrderTest::busy, x -> x.say(1, 4, 0, 0));
        Due.changesNothing("a closed end", OrderTest::busy, x -> x.say(1, 3, 1, 0));
        Due.changesNothing("a carried end", OrderTest::busy, x -> x.say(0, 6, 0, 0));
        Due.changesNothing("a forbidden letter", OrderTest::busy, x -> x.say(0, 5, 0, 0));
        Due.changesNothing("a forbidden letter with a block", OrderTest::busy, x -> x.say(0, 4, 5, 0));
        Due.changesNothing("the other side's letter", OrderTest::busy, x -> x.say(0, 4, 1, 0));
    }

    private static void refusedLoad() {
        Due.changesNothing("another's block", OrderTest::busy, x -> x.say(0, 4, 4, 1));
        Due.changesNothing("a carried block", OrderTest::busy, x -> x.say(0, 4, 4, 2));
        Due.changesNothing("a free block", OrderTest::busy, x -> x.say(0, 4, 4, 4));
        Due.changesNothing("no block", OrderTest::busy, x -> x.say(0, 4, 4, 12));
        Due.changesNothing("another's end", OrderTest::busy, x -> x.say(0, 4, 6, 1));
        Due.changesNothing("a closed end", OrderTest::busy, x -> x.say(0, 4, 6, 3));
        Due.changesNothing("a carried end", OrderTest::busy, x -> x.say(0, 4, 6, 6));
        Due.changesNothing("the end itself", OrderTest::busy, x -> x.say(0, 4, 6, 4));
        Due.changesNothing("its other end", OrderTest::busy, x -> x.say(0, 4, 6, 5));
        Due.changesNothing("no end", OrderTest::busy, x -> x.say(0, 4, 6, -1));
    }

    private static void refusedByFullQueue() {
        Due.changesNothing("a letter", OrderTest::busy, x -> x.say(0, 0, 2, 5));
        Due.changesNothing("a block", OrderTest::busy, x -> x.say(0, 0, 4, 0));
        Due.changesNothing("an end", OrderTest::busy, x -> x.say(0, 0, 6, 7));
    }

    private static void refusedByClosedEnd() {
        Due.changesNothing("a letter", OrderTest::busy, x -> x.say(0, 2, 2, 5));
        Due.changesNothing("a block", OrderTest::busy, x -> x.say(0, 2, 4, 0));
        Due.changesNothing("an end", OrderTest::busy, x -> x.say(0, 2, 6, 7));
    }

    private static void refusedHear() {
        Due.changesNothing("no process", OrderTest::busy, x -> x.hear(-1, 4));
        Due.changesNothing("no end", OrderTest::busy, x -> x.hear(0, 12));
        Due.changesNothing("a dead process", OrderTest::busy, x -> x.hear(2, 4));
        Due.changesNothing("another's end", OrderTest::busy, x -> x.hear(0, 1));
        Due.changesNothing("a closed end", OrderTest::busy, x -> x.hear(1, 3));
        Due.changesNothing("a carried end", OrderTest::busy, x -> x.hear(0, 6));
        Due.changesNothing("an empty queue", OrderTest::busy, x -> x.hear(0, 0));
        Due.changesNothing("what the contract forbids", OrderTest::busy, x -> x.hear(0, 5));
    }

    private static void refusedChoose() {
        Due.changesNothing("no process", OrderTest::busy, x -> x.choose(4, 1));
        Due.changesNothing("no mask", OrderTest::busy, x -> x.choose(0, 4096));
        Due.changesNothing("a dead process", OrderTest::busy, x -> x.choose(2, 4095));
        Due.changesNothing("none", OrderTest::busy, x -> x.choose(0, 1));
    }

    private static void refusedClose() {
        Due.changesNothing("no process", OrderTest::busy, x -> x.close(4, 0));
        Due.changesNothing("no end", OrderTest::busy, x -> x.close(0, 12));
        Due.changesNothing("a dead process", OrderTest::busy, x -> x.close(2, 0));
        Due.changesNothing("another's end", OrderTest::busy, x -> x.close(0, 1));
        Due.changesNothing("a closed end", OrderTest::busy, x -> x.close(1, 3));
        Due.changesNothing("a carried end", OrderTest::busy, x -> x.close(0, 6));
    }

    private static void refusedLook() {
        Due.changesNothing("no block", OrderTest::busy, x -> x.ofBlock(12, 0));
        Due.changesNothing("nothing of a block", OrderTest::busy, x -> x.ofBlock(0, 2));
        Due.changesNothing("no end", OrderTest::busy, x -> x.ofEnd(12, 0));
        Due.changesNothing("nothing of an end", OrderTest::busy, x -> x.ofEnd(0, 3));
    }
}
