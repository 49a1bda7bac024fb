/** Promise 14, and what "Terms" says of CLOSING and DROPPING. */
public final class CloseTest {
    public static void main(String[] args) {
        Due.sentence("Process p CLOSES END e.", CloseTest::closesIt);
        Due.sentence("p or e out of range: bad.", CloseTest::outOfRange);
        Due.sentence("A process that isn't ALIVE: not yours.", CloseTest::notAlive);
        Due.sentence("An END that it doesn't OWN or that is CLOSED: not yours.", CloseTest::notOwned);
        Due.sentence("Its QUEUE's MESSAGES are DROPPED.", CloseTest::messagesAreDropped);
        Due.sentence("Its QUEUE is empty: none is DROPPED.", CloseTest::emptyQueue);
        Due.sentence("Its QUEUE alone: what it said itself stays.", CloseTest::ownMessagesStay);
        Due.sentence("DROPPING: its BLOCK is freed.", CloseTest::blocksAreFreed);
        Due.sentence("DROPPING: its END is CLOSED.", CloseTest::endsAreClosed);
        Due.sentence("DROPPING a .. c: nothing is freed or CLOSED.", CloseTest::valuesAreNoNumbers);
        carrying();
        Due.sentence("Answers as kill.", CloseTest::answers);
        Due.sentence("ENDS that are carried only in each other's QUEUES stay OPEN.", CloseTest::rings);
        Due.sentence("And their CHANNELS are not free.", CloseTest::channelsOfRings);
        Due.sentence("An END that leads into a ring of others is none of it.", CloseTest::besideARing);
        Due.end();
    }

    private static void carrying() {
        Due.sentence("A chain of carried ENDS is CLOSED to its last.", CloseTest::chains);
        Due.sentence("Even one of all twelve.", CloseTest::theLongestChain);
        Due.sentence("From the first on: all of them, though the first carries an END.", CloseTest::trees);
        Due.sentence("Both ENDS of a CHANNEL in one QUEUE.", CloseTest::bothEndsOfAChannel);
        Due.sentence("While its QUEUE is being emptied it's already CLOSED.", CloseTest::closedWhileEmptied);
    }

    private static void closesIt() {
        for (int e = 0; e < 12; e++) {
            ExchangeSystem x = Due.system(1, "1a!2,1b?3");
            Due.openOwn(x, 6);
            x.say(0, e, e & 1, 0);
            Due.is("close", x.close(0, e), 1);
            Due.is("owner", x.ofEnd(e, 0), -1);
            Due.is("state", x.ofEnd(e, 1), 0);
            Due.is("the other's owner", x.ofEnd(e ^ 1, 0), 0);
            Due.is("the other's state", x.ofEnd(e ^ 1, 1), 1);
            Due.is("the other's messages", x.ofEnd(e ^ 1, 2), 1);
            Due.is("count(3)", x.count(3), 11);
            Due.is("count(8)", x.count(8), 0);
        }
    }

    private static void outOfRange() {
        ExchangeSystem x = Due.system(1, "1a!1");
        Due.openOwn(x, 6);
        for (int p : Due.outside(0, 3)) {
            Due.bad("close(" + p + ", 0)", () -> x.close(p, 0));
        }
        for (int e : Due.outside(0, 11)) {
            Due.bad("close(0, " + e + ")", () -> x.close(0, e));
            Due.bad("close(2, " + e + ") of a dead process", () -> x.close(2, e));
        }
        Due.is("count(3)", x.count(3), 12);
    }

    private static void notAlive() {
        ExchangeSystem x = Due.system(2, "1a!1");
        x.open(0, 1, 0);
        Due.notYours("a process that never was", () -> x.close(3, 0));
        x.kill(1);
        Due.notYours("a killed one, the end it had", () -> x.close(1, 1));
        Due.notYours("a killed one, another's", () -> x.close(1, 0));
        Due.is("count(3)", x.count(3), 1);
    }

    private static void notOwned() {
        ExchangeSystem x = Due.system(2, "1E!1");
        x.open(0, 1, 0);
        x.open(0, 0, 0);
        Due.notYours("another's", () -> x.close(1, 0));
        Due.notYours("another's", () -> x.close(0, 1));
        Due.notYours("one that never was open", () -> x.close(0, 4));
        x.say(0, 0, 6, 2);
        Due.notYours("a carried one, by its sender", () -> x.close(0, 2));
        Due.notYours("a carried one, by its hearer", () -> x.close(1, 2));
        Due.is("count(3)", x.count(3), 4);
        x.close(0, 3);
        Due.notYours("one that was closed", () -> x.close(0, 3));
        Due.is("count(3)", x.count(3), 3);
    }

    private static void messagesAreDropped() {
        for (int messages = 0; messages <= 3; messages++) {
            ExchangeSystem x = Due.system(2, "1a!1");
            x.open(0, 1, 0);
            for (int m = 0; m < messages; m++) {
                x.say(0, 0, 0, m);
            }
            Due.is("close with " + messages, x.close(1, 1), 1);
            Due.is("count(4)", x.count(4), 0);
            Due.is("count(5)", x.count(5), messages);
            Due.is("count(6)", x.count(6), 0);
            Due.is("count(7)", x.count(7), messages);
            Due.is("messages for a closed end", x.ofEnd(1, 2), 0);
        }
    }

    private static void emptyQueue() {
        ExchangeSystem x = Due.system(1, "1a!1");
        x.open(0, 0, 0);
        x.say(0, 0, 0, 0);
        x.hear(0, 1);
        Due.is("close when all is heard", x.close(0, 1), 1);
        Due.is("count(7)", x.count(7), 0);
    }

    private static void ownMessagesStay() {
        ExchangeSystem x = Due.system(2, "1A!1,1a?1");
        x.open(0, 1, 0);
        x.block(0, 2);
        x.say(0, 0, 3, 0);
        x.say(1, 1, 0, 4);
        Due.is("close", x.close(0, 0), 1);
        Due.is("count(7)", x.count(7), 1);
        Due.is("the block it sent", x.ofBlock(0, 0), 4);
        Due.is("hear what it said", x.hear(1, 1), 48);
    }

    private static void blocksAreFreed() {
        for (int letter = 3; letter < 6; letter++) {
            ExchangeSystem x = Due.system(2, "1A!1,1B!1,1C!1");
            x.open(0, 1, 0);
            Due.handOut(x, 0, 6, 8);
            x.write(0, 2, 7, 9);
            x.say(0, 0, letter, 2);
            Due.is("close", x.close(1, 1), 2);
            Due.is("owner", x.ofBlock(2, 0), -1);
            Due.is("cells", x.ofBlock(2, 1), 0);
            Due.is("count(2)", x.count(2), 40);
            Due.notYours("it is the sender's no more", () -> x.read(0, 2, 0));
            Due.is("its cells are free again", x.block(1, 8), 2);
            Due.is("its cells are gone", x.read(1, 2, 7), 0);
        }
    }

    private static void endsAreClosed() {
        ExchangeSystem x = Due.system(2, "1E!1,1a?2");
        x.open(0, 1, 0);
        x.open(0, 0, 0);
        x.say(0, 3, 0, 0);
        x.say(0, 0, 6, 3);
        Due.is("close", x.close(1, 1), 2);
        Due.is("owner", x.ofEnd(3, 0), -1);
        Due.is("state", x.ofEnd(3, 1), 0);
        Due.is("its other end", x.ofEnd(2, 0), 0);
        Due.is("hear what it said", x.hear(0, 2), 0);
        Due.is("close the other end", x.close(0, 2), 1);
        Due.is("its channel is free", x.open(0, 0, 0), 1);
    }

    private static void valuesAreNoNumbers() {
        for (int value = 0; value < 12; value++) {
            ExchangeSystem x = Due.system(2, "1a!1,1b!1,1c!1");
            x.open(0, 1, 0);
            for (int c = 1; c < 6; c++) {
                x.open(0, 0, 0);
            }
            Due.handOut(x, 0, 12, 1);
            for (int letter = 0; letter < 3; letter++) {
                x.say(0, 0, letter, value);
            }
            Due.is("close", x.close(1, 1), 1);
            Due.is("count(1)", x.count(1), 12);
            Due.is("count(3)", x.count(3), 11);
            Due.is("count(7)", x.count(7), 3);
        }
    }

    private static void chains() {
        ExchangeSystem x = Due.system(1, "1E!1,1C!1");
        Due.openOwn(x, 6);
        x.block(0, 1);
        x.say(0, 0, 5, 0);
        for (int c = 1; c < 6; c++) {
            x.say(0, 2 * c, 6, 2 * c - 1);
        }
        Due.is("close the last of a chain", x.close(0, 11), 7);
        Due.is("count(1)", x.count(1), 0);
        Due.is("count(3)", x.count(3), 6);
        Due.is("count(7)", x.count(7), 6);
        for (int e = 0; e < 12; e++) {
            Due.is("owner of end " + e, x.ofEnd(e, 0), (e & 1) == 0 ? 0 : -1);
        }
    }

    /** Each end but the last has the next one in its queue: those of side 1, then those of side 0. */
    private static void theLongestChain() {
        ExchangeSystem x = Due.system(1, "1E!1,1a?2,2E?2");
        int[] chain = {1, 3, 5, 7, 9, 11, 0, 2, 4, 6, 8, 10};
        for (int c = 0; c < 6; c++) {
            x.open(0, 0, 0);
            x.say(0, 2 * c + 1, 0, 0);
        }
        // In this order each end says what it has to say before it is sent itself.
        int[] order = {4, 9, 2, 7, 0, 5, 10, 3, 8, 1, 6};
        for (int link : order) {
            x.say(0, chain[link] ^ 1, 6, chain[link + 1]);
        }
        Due.is("count(4)", x.count(4), 17);
        Due.is("the process owns the first", x.ofEnd(1, 0), 0);
        Due.is("close", x.close(0, 1), 12);
        Due.is("count(3)", x.count(3), 0);
        Due.is("count(4)", x.count(4), 0);
        Due.is("count(7)", x.count(7), 17);
        Due.is("all channels are free", x.open(0, 0, 0), 0);
    }

    private static void trees() {
        ExchangeSystem x = Due.system(1, "1E!1,1A!1");
        Due.openOwn(x, 4);
        Due.handOut(x, 0, 4, 1);
        x.say(0, 2, 3, 0);
        x.say(0, 2, 6, 5);
        x.say(0, 2, 3, 1);
        x.say(0, 4, 3, 2);
        x.say(0, 0, 6, 3);
        x.say(0, 0, 6, 7);
        x.say(0, 0, 3, 3);
        Due.is("close", x.close(0, 1), 8);
        Due.is("count(1)", x.count(1), 0);
        Due.is("count(3)", x.count(3), 4);
        Due.is("count(4)", x.count(4), 0);
        Due.is("count(7)", x.count(7), 7);
    }

    private static void bothEndsOfAChannel() {
        ExchangeSystem x = Due.system(1, "1E!1,1a!1,1b?1");
        Due.openOwn(x, 2);
        x.say(0, 2, 0, 0);
        x.say(0, 3, 1, 0);
        x.say(0, 0, 6, 2);
        x.say(0, 0, 6, 3);
        Due.is("close", x.close(0, 1), 3);
        Due.is("count(7)", x.count(7), 4);
        Due.is("its channel is free", x.open(0, 0, 0), 1);
        Due.is("the other is not", x.open(0, 0, 0), 2);
    }

    /** End 3 has end 0 in its queue, and end 0 has end 2: end 3's other end is closed on the way. */
    private static void closedWhileEmptied() {
        ExchangeSystem x = Due.system(1, "1E!1,1a?2,2E?2");
        Due.openOwn(x, 2);
        x.say(0, 1, 0, 0);
        x.say(0, 3, 0, 0);
        x.say(0, 2, 6, 0);
        x.say(0, 1, 6, 2);
        Due.is("close", x.close(0, 3), 3);
        Due.is("count(7)", x.count(7), 4);
        Due.is("count(3)", x.count(3), 1);
        Due.is("the one that is left", x.ofEnd(1, 0), 0);
        Due.is("the free channel", x.open(0, 0, 0), 1);
        Due.none("its other end is closed", () -> x.say(0, 1, 6, 2));
    }

    private static void answers() {
        ExchangeSystem x = Due.system(2, "1A!1,1E!1,1a!1");
        x.open(0, 1, 0);
        x.open(0, 0, 0);
        x.block(0, 6);
        Due.is("an end alone", x.close(0, 3), 1);
        x.say(0, 0, 3, 0);
        x.say(0, 0, 0, 3);
        x.say(0, 0, 6, 2);
        Due.is("with a block and an end", x.close(1, 1), 3);
        Due.is("the last", x.close(0, 0), 1);
    }

    /** The ends 1, 3 and 5, each in the queue of the one before. */
    private static ExchangeSystem withRing() {
        ExchangeSystem x = Due.system(1, "1E!1,1a!1,1A!1");
        Due.openOwn(x, 3);
        x.block(0, 2);
        x.say(0, 0, 3, 0);
        x.say(0, 0, 6, 3);
        x.say(0, 2, 6, 5);
        x.say(0, 4, 6, 1);
        return x;
    }

    private static void rings() {
        ExchangeSystem x = withRing();
        for (int e = 0; e < 6; e += 2) {
            Due.is("close(0, " + e + ")", x.close(0, e), 1);
        }
        for (int e = 1; e < 6; e += 2) {
            Due.is("the ring's end", x.ofEnd(e, 0), 4);
            Due.is("its state", x.ofEnd(e, 1), 1);
            Due.is("its messages", x.ofEnd(e, 2), e == 1 ? 2 : 1);
        }
        Due.is("count(1)", x.count(1), 1);
        Due.is("the block in the ring", x.ofBlock(0, 0), 4);
        Due.is("count(3)", x.count(3), 3);
        Due.is("count(4)", x.count(4), 4);
        Due.is("count(7)", x.count(7), 0);
    }

    private static void channelsOfRings() {
        ExchangeSystem x = withRing();
        for (int e = 0; e < 6; e += 2) {
            x.close(0, e);
        }
        for (int c = 3; c < 6; c++) {
            Due.is("open", x.open(0, 0, 0), c);
        }
        Due.noRoom("open", () -> x.open(0, 0, 0));
    }

    private static void besideARing() {
        ExchangeSystem x = withRing();
        Due.openOwn(x, 1);
        x.say(0, 6, 6, 0);
        Due.is("close an end that has one of a ring's other ends", x.close(0, 7), 2);
        Due.is("that one", x.ofEnd(0, 0), -1);
        Due.is("the ring's end", x.ofEnd(1, 0), 4);
        x.say(0, 2, 0, 5);
        Due.is("messages may still come to a ring", x.ofEnd(3, 2), 2);
        x.say(0, 2, 0, 5);
        Due.notYours("until its queue is full", () -> x.say(0, 2, 0, 5));
    }
}
