/** Promise 14, and CLOSING and DROPPING under "Terms". */
public final class CloseTest {
    public static void main(String[] args) {
        wrongNumbersAndOwners();
        oneEnd();
        messagesAreDropped();
        ownMessagesStay();
        chains();
        theLongestChain();
        trees();
        rings();
        Due.end();
    }

    private static void wrongNumbersAndOwners() {
        ExchangeSystem x = Due.system(2, "1E!1");
        x.open(0, 1, 0);
        x.open(0, 0, 0);
        int[] far = {-1, Integer.MIN_VALUE, Integer.MAX_VALUE};
        for (int number : far) {
            Due.bad("close(" + number + ", 0)", () -> x.close(number, 0));
            Due.bad("close(0, " + number + ")", () -> x.close(0, number));
        }
        Due.bad("close(4, 0)", () -> x.close(4, 0));
        Due.bad("close(0, 12)", () -> x.close(0, 12));
        Due.bad("close(2, 12) of a dead process", () -> x.close(2, 12));
        Due.notYours("another's", () -> x.close(1, 0));
        Due.notYours("a closed one", () -> x.close(0, 4));
        Due.notYours("a dead process", () -> x.close(3, 0));
        x.say(0, 0, 6, 2);
        Due.notYours("a carried one", () -> x.close(0, 2));
        Due.is("count(3)", x.count(3), 4);
    }

    private static void oneEnd() {
        ExchangeSystem x = Due.system(1, "1a!2");
        x.open(0, 0, 0);
        x.say(0, 0, 0, 0);
        Due.is("close", x.close(0, 0), 1);
        Due.is("owner", x.ofEnd(0, 0), -1);
        Due.is("state", x.ofEnd(0, 1), 0);
        Due.is("the other's owner", x.ofEnd(1, 0), 0);
        Due.is("the other's state", x.ofEnd(1, 1), 1);
        Due.notYours("close twice", () -> x.close(0, 0));
        Due.is("count(7)", x.count(7), 0);
        Due.is("close the other", x.close(0, 1), 1);
        Due.is("messages", x.ofEnd(1, 2), 0);
        Due.is("count(7)", x.count(7), 1);
        Due.is("count(3)", x.count(3), 0);
        Due.is("count(8)", x.count(8), 0);
    }

    private static void messagesAreDropped() {
        ExchangeSystem x = Due.system(2, "1a!1,1B!1,1E!1");
        x.open(0, 1, 0);
        x.open(0, 0, 0);
        x.block(0, 6);
        x.say(0, 0, 4, 0);
        x.say(0, 0, 0, 3);
        x.say(0, 0, 6, 3);
        Due.is("close", x.close(1, 1), 3);
        Due.is("count(4)", x.count(4), 0);
        Due.is("count(5)", x.count(5), 3);
        Due.is("count(6)", x.count(6), 0);
        Due.is("count(7)", x.count(7), 3);
        Due.is("the block", x.ofBlock(0, 0), -1);
        Due.is("its cells", x.count(2), 0);
        Due.is("the end", x.ofEnd(3, 0), -1);
        Due.is("its other end", x.ofEnd(2, 0), 0);
        Due.notYours("the block is nobody's", () -> x.read(0, 0, 0));
    }

    private static void ownMessagesStay() {
        ExchangeSystem x = Due.system(2, "1A!1,1a?1");
        x.open(0, 1, 0);
        x.block(0, 2);
        x.say(0, 0, 3, 0);
        x.say(1, 1, 0, 4);
        Due.is("close drops what is for it alone", x.close(0, 0), 1);
        Due.is("count(7)", x.count(7), 1);
        Due.is("hear what it said", x.hear(1, 1), 48);
    }

    private static void chains() {
        ExchangeSystem x = Due.system(1, "1E!1,1C!1");
        for (int c = 0; c < 6; c++) {
            x.open(0, 0, 0);
        }
        x.block(0, 1);
        x.say(0, 0, 5, 0);
        for (int c = 1; c < 6; c++) {
            x.say(0, 2 * c, 6, 2 * c - 1);
        }
        Due.is("close the last of a chain", x.close(0, 11), 7);
        Due.is("count(3)", x.count(3), 6);
        Due.is("count(7)", x.count(7), 6);
        for (int e = 0; e < 12; e++) {
            Due.is("owner of end " + e, x.ofEnd(e, 0), (e & 1) == 0 ? 0 : -1);
        }
    }

    /** All twelve ends, each but the last with the next one in its queue: those of side 1, then of side 0. */
    private static void theLongestChain() {
        ExchangeSystem x = Due.system(1, "1E!1,1a?2,2E?2");
        int[] chain = {1, 3, 5, 7, 9, 11, 0, 2, 4, 6, 8, 10};
        for (int c = 0; c < 6; c++) {
            x.open(0, 0, 0);
            x.say(0, 2 * c + 1, 0, 0);
        }
        // In this order each end says what it has to say before it is sent itself.
        int[] order = {4, 9, 2, 7, 0, 5, 10, 3, 8, 1, 6};
        for (int link : order) {
            x.say(0, chain[link] ^ 1, 6, chain[link + 1]);
        }
        Due.is("count(4)", x.count(4), 17);
        Due.is("the process owns the first", x.ofEnd(1, 0), 0);
        Due.is("close", x.close(0, 1), 12);
        Due.is("count(3)", x.count(3), 0);
        Due.is("count(4)", x.count(4), 0);
        Due.is("count(7)", x.count(7), 17);
        Due.is("all channels are free", x.open(0, 0, 0), 0);
    }

    /** The first message carries an end with messages of its own; those behind it go as well. */
    private static void trees() {
        ExchangeSystem x = Due.system(1, "1E!1,1A!1");
        for (int c = 0; c < 4; c++) {
            x.open(0, 0, 0);
        }
        for (int b = 0; b < 4; b++) {
            x.block(0, 1);
        }
        x.say(0, 2, 3, 0);
        x.say(0, 2, 6, 5);
        x.say(0, 2, 3, 1);
        x.say(0, 4, 3, 2);
        x.say(0, 0, 6, 3);
        x.say(0, 0, 6, 7);
        x.say(0, 0, 3, 3);
        Due.is("close", x.close(0, 1), 8);
        Due.is("count(1)", x.count(1), 0);
        Due.is("count(3)", x.count(3), 4);
        Due.is("count(4)", x.count(4), 0);
        Due.is("count(7)", x.count(7), 7);
    }

    private static void rings() {
        ExchangeSystem x = Due.system(1, "1E!1,1a!1");
        for (int c = 0; c < 3; c++) {
            x.open(0, 0, 0);
        }
        x.say(0, 0, 6, 3);
        x.say(0, 2, 6, 5);
        x.say(0, 4, 6, 1);
        for (int e = 0; e < 6; e += 2) {
            Due.is("close(0, " + e + ")", x.close(0, e), 1);
            Due.is("the ring's end", x.ofEnd(e + 1, 0), 4);
            Due.is("its messages", x.ofEnd(e + 1, 2), 1);
        }
        Due.is("count(3)", x.count(3), 3);
        Due.is("count(4)", x.count(4), 3);
        Due.is("count(7)", x.count(7), 0);
        Due.is("a ring's channels are not free", x.open(0, 0, 0), 3);
        Due.is("kill(0)", x.kill(0), 2);
        Due.is("count(3)", x.count(3), 3);
    }
}
