/** Promises 15 and 16. */
public final class OfTest {
    public static void main(String[] args) {
        Due.sentence("Of BLOCK b: its OWNER.", OfTest::ownerOfBlock);
        Due.sentence("A BLOCK's OWNER: 4 for a MESSAGE.", OfTest::blockOfMessage);
        Due.sentence("A BLOCK's OWNER: -1 if it's free.", OfTest::freeBlock);
        Due.sentence("Its cells (1), 0 if it's free.", OfTest::cellsOfBlock);
        Due.sentence("ofBlock: b or what out of range is bad.", OfTest::ofBlockOutOfRange);
        Due.sentence("Of END e: its OWNER.", OfTest::ownerOfEnd);
        Due.sentence("An END's OWNER: 4 for a MESSAGE.", OfTest::endOfMessage);
        Due.sentence("An END's OWNER: -1 if it's CLOSED.", OfTest::closedEnd);
        Due.sentence("STATE (1), 0 if it's CLOSED.", OfTest::stateOfEnd);
        Due.sentence("STATE 0 of an OPEN END.", OfTest::stateZeroOfOpenEnd);
        Due.sentence("MESSAGES for it (2), 0 if it's CLOSED.", OfTest::messagesForEnd);
        Due.sentence("ofEnd: e or what out of range is bad.", OfTest::ofEndOutOfRange);
        Due.end();
    }

    private static void ownerOfBlock() {
        ExchangeSystem x = Due.system(4, "1A!1");
        for (int b = 0; b < 12; b++) {
            x.block(b / 3, 2);
        }
        for (int b = 0; b < 12; b++) {
            Due.is("ofBlock(" + b + ", 0)", x.ofBlock(b, 0), b / 3);
        }
        x.open(2, 0, 0);
        x.say(2, 0, 3, 7);
        x.hear(0, 1);
        Due.is("owner of a heard one", x.ofBlock(7, 0), 0);
    }

    private static void blockOfMessage() {
        ExchangeSystem x = Due.system(2, "1A!1,1B!1,1C!1");
        x.open(0, 1, 0);
        for (int b = 0; b < 3; b++) {
            x.block(0, b + 6);
            x.say(0, 0, b + 3, b);
            Due.is("owner of a carried one", x.ofBlock(b, 0), 4);
            Due.is("its cells", x.ofBlock(b, 1), b + 6);
        }
        x.kill(0);
        Due.is("when its sender is killed", x.ofBlock(0, 0), 4);
    }

    private static void freeBlock() {
        ExchangeSystem x = Due.system(2, "1A!1");
        x.open(0, 1, 0);
        Due.handOut(x, 0, 3, 1);
        x.free(0, 0);
        x.say(0, 0, 3, 1);
        x.close(1, 1);
        x.kill(0);
        Due.is("one that was freed", x.ofBlock(0, 0), -1);
        Due.is("one of a dropped message", x.ofBlock(1, 0), -1);
        Due.is("one of a killed process", x.ofBlock(2, 0), -1);
        Due.is("one that never was", x.ofBlock(11, 0), -1);
    }

    private static void cellsOfBlock() {
        ExchangeSystem x = new ExchangeSystem();
        for (int n = 1; n <= 8; n++) {
            int b = x.block(0, n);
            Due.is("cells", x.ofBlock(b, 1), n);
        }
        for (int b = 0; b < 8; b++) {
            x.free(0, b);
            Due.is("cells of a free one", x.ofBlock(b, 1), 0);
        }
        Due.is("cells of one that never was", x.ofBlock(11, 1), 0);
    }

    private static void ofBlockOutOfRange() {
        ExchangeSystem x = new ExchangeSystem();
        Due.handOut(x, 0, 12, 1);
        for (int b : Due.outside(0, 11)) {
            Due.bad("ofBlock(" + b + ", 0)", () -> x.ofBlock(b, 0));
            Due.bad("ofBlock(" + b + ", 1)", () -> x.ofBlock(b, 1));
        }
        for (int what : Due.outside(0, 1)) {
            Due.bad("ofBlock(0, " + what + ")", () -> x.ofBlock(0, what));
            Due.bad("ofBlock(11, " + what + ")", () -> x.ofBlock(11, what));
        }
    }

    private static void ownerOfEnd() {
        ExchangeSystem x = Due.system(4, "1E!1");
        for (int c = 0; c < 6; c++) {
            x.open(c % 4, (c + 1) % 4, 0);
        }
        for (int c = 0; c < 6; c++) {
            Due.is("ofEnd(" + 2 * c + ", 0)", x.ofEnd(2 * c, 0), c % 4);
            Due.is("ofEnd(" + (2 * c + 1) + ", 0)", x.ofEnd(2 * c + 1, 0), (c + 1) % 4);
        }
        x.say(0, 0, 6, 8);
        x.hear(1, 1);
        Due.is("owner of a heard one", x.ofEnd(8, 0), 1);
    }

    private static void endOfMessage() {
        ExchangeSystem x = Due.system(2, "1E!1,1a?2");
        x.open(0, 1, 0);
        x.open(0, 1, 0);
        x.say(1, 3, 0, 0);
        x.say(0, 0, 6, 2);
        Due.is("owner of a carried one", x.ofEnd(2, 0), 4);
        Due.is("its state", x.ofEnd(2, 1), 1);
        Due.is("its messages", x.ofEnd(2, 2), 1);
        x.kill(0);
        Due.is("when its sender is killed", x.ofEnd(2, 0), 4);
    }

    private static void closedEnd() {
        ExchangeSystem x = Due.system(2, "1E!1");
        x.open(0, 1, 0);
        x.open(0, 0, 0);
        x.say(0, 0, 6, 2);
        x.close(1, 1);
        x.kill(0);
        Due.is("one of a killed process", x.ofEnd(0, 0), -1);
        Due.is("one that was closed", x.ofEnd(1, 0), -1);
        Due.is("one of a dropped message", x.ofEnd(2, 0), -1);
        Due.is("one that never was open", x.ofEnd(11, 0), -1);
    }

    private static void stateOfEnd() {
        ExchangeSystem x = Due.system(1, "1a!2,2a!3,3a!6,6a!4");
        x.open(0, 0, 0);
        int[] states = {1, 2, 3, 6, 4};
        for (int i = 0; i < 4; i++) {
            Due.is("state of the sayer", x.ofEnd(0, 1), states[i]);
            x.say(0, 0, 0, 0);
            Due.is("state of the hearer", x.ofEnd(1, 1), states[i]);
            x.hear(0, 1);
        }
        Due.is("state of the sayer", x.ofEnd(0, 1), 4);
        x.close(0, 0);
        Due.is("state of a closed one", x.ofEnd(0, 1), 0);
        Due.is("state of its other end", x.ofEnd(1, 1), 4);
        x.kill(0);
        Due.is("state behind a kill", x.ofEnd(1, 1), 0);
    }

    private static void stateZeroOfOpenEnd() {
        ExchangeSystem x = Due.system(1, "1a!0,1b?1");
        x.open(0, 0, 0);
        x.say(0, 0, 0, 0);
        x.say(0, 1, 1, 0);
        Due.is("state", x.ofEnd(0, 1), 0);
        Due.is("owner", x.ofEnd(0, 0), 0);
        Due.is("messages", x.ofEnd(0, 2), 1);
        Due.is("choose", x.choose(0, 4095), 0);
        Due.is("count(3)", x.count(3), 2);
        Due.is("close", x.close(0, 0), 1);
    }

    private static void messagesForEnd() {
        ExchangeSystem x = Due.system(1, "1a!1,1b?1");
        x.open(0, 0, 0);
        for (int m = 1; m <= 3; m++) {
            x.say(0, 0, 0, 0);
            Due.is("messages", x.ofEnd(1, 2), m);
        }
        x.say(0, 1, 1, 0);
        Due.is("messages for the other", x.ofEnd(0, 2), 1);
        x.hear(0, 1);
        Due.is("messages", x.ofEnd(1, 2), 2);
        x.close(0, 1);
        Due.is("messages for a closed one", x.ofEnd(1, 2), 0);
        Due.is("messages for its other end", x.ofEnd(0, 2), 1);
        x.kill(0);
        Due.is("messages behind a kill", x.ofEnd(0, 2), 0);
    }

    private static void ofEndOutOfRange() {
        ExchangeSystem x = Due.system(1, "1a!1");
        Due.openOwn(x, 6);
        for (int e : Due.outside(0, 11)) {
            for (int what = 0; what < 3; what++) {
                int asked = what;
                Due.bad("ofEnd(" + e + ", " + what + ")", () -> x.ofEnd(e, asked));
            }
        }
        for (int what : Due.outside(0, 2)) {
            Due.bad("ofEnd(0, " + what + ")", () -> x.ofEnd(0, what));
            Due.bad("ofEnd(11, " + what + ")", () -> x.ofEnd(11, what));
        }
    }
}
