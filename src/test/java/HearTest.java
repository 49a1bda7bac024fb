/** Promise 12, and what "Terms" says of being HEARD. */
public final class HearTest {
    public static void main(String[] args) {
        Due.sentence("Process p takes the first MESSAGE of END e's QUEUE.", HearTest::theFirst);
        Due.sentence("A QUEUE of 3 may be emptied and filled again and again.", HearTest::roundAndRound);
        Due.sentence("p OWNS the BLOCK that it carries.", HearTest::ownsTheBlock);
        Due.sentence("p OWNS the END that it carries.", HearTest::ownsTheEnd);
        Due.sentence("p or e out of range: bad.", HearTest::outOfRange);
        Due.sentence("A process that isn't ALIVE: not yours.", HearTest::notAlive);
        Due.sentence("An END that it doesn't OWN or that is CLOSED: not yours.", HearTest::endNotOwned);
        Due.sentence("The QUEUE is empty: none.", HearTest::emptyQueue);
        forbidding();
        Due.sentence("This END's STATE becomes the one behind the RULE.", HearTest::stateGoesOn);
        Due.sentence("Both ENDS go on by themselves.", HearTest::theOtherStateStays);
        Due.sentence("Answers 16 times the LETTER plus the value's lowest four bits.", HearTest::lowestFourBits);
        Due.sentence("Else the number of the BLOCK.", HearTest::numbersOfBlocks);
        Due.sentence("Else the number of the END.", HearTest::numbersOfEnds);
        Due.sentence("What was said is heard, though the sayer's END is CLOSED.", HearTest::sayerClosed);
        Due.end();
    }

    private static void forbidding() {
        Due.sentence("This END's STATE must have a RULE for the LETTER.", HearTest::noRuleFromThisState);
        Due.sentence("With the ARROW of the other SIDE.", HearTest::arrowOfTheOtherSide);
        Due.sentence("In STATE 0 nothing is heard.", HearTest::stateZero);
        Due.sentence("The contract forbids it: not yours, the MESSAGE stays.", HearTest::theMessageStays);
        Due.sentence("The CHANNEL's contract, though CONTRACT k is another now.", HearTest::theChannelsContract);
    }

    private static void theFirst() {
        ExchangeSystem x = Due.system(2, "1a!1,1b!1,1c!1");
        x.open(0, 1, 0);
        x.say(0, 0, 2, 5);
        x.say(0, 0, 0, 6);
        x.say(0, 0, 1, 7);
        Due.is("the first", x.hear(1, 1), 37);
        Due.is("messages", x.ofEnd(1, 2), 2);
        Due.is("the second", x.hear(1, 1), 6);
        Due.is("messages", x.ofEnd(1, 2), 1);
        Due.is("the third", x.hear(1, 1), 23);
        Due.is("messages", x.ofEnd(1, 2), 0);
        Due.is("count(6)", x.count(6), 3);
    }

    private static void roundAndRound() {
        ExchangeSystem x = Due.system(1, "1a!1,1b!1");
        x.open(0, 0, 0);
        int heard = 0;
        int said = 0;
        for (int round = 0; round < 9; round++) {
            while (x.ofEnd(1, 2) < 3) {
                x.say(0, 0, said & 1, said);
                said++;
            }
            for (int i = 0; i <= round % 3; i++) {
                Due.is("hear", x.hear(0, 1), 16 * (heard & 1) + (heard & 15));
                heard++;
            }
            Due.is("messages", x.ofEnd(1, 2), 2 - round % 3);
        }
    }

    private static void ownsTheBlock() {
        ExchangeSystem x = Due.system(2, "1A!1,1B!1,1C!1");
        x.open(0, 1, 0);
        for (int letter = 3; letter < 6; letter++) {
            int block = x.block(0, 2);
            x.write(0, block, 1, -letter);
            x.say(0, 0, letter, block);
            x.hear(1, 1);
            Due.is("owner", x.ofBlock(block, 0), 1);
            Due.is("cells", x.ofBlock(block, 1), 2);
            Due.is("read", x.read(1, block, 1), -letter);
            Due.notYours("the sayer owns it no more", () -> x.read(0, block, 1));
        }
    }

    private static void ownsTheEnd() {
        ExchangeSystem x = Due.system(3, "1E!1,1a!2,2b?1");
        x.open(0, 1, 0);
        x.open(0, 2, 0);
        x.say(0, 2, 0, 3);
        x.say(0, 0, 6, 2);
        Due.is("hear", x.hear(1, 1), 98);
        Due.is("owner", x.ofEnd(2, 0), 1);
        Due.is("its state", x.ofEnd(2, 1), 2);
        Due.notYours("the sayer owns it no more", () -> x.close(0, 2));
        x.hear(2, 3);
        x.say(2, 3, 1, 6);
        Due.is("hear at the end that was heard", x.hear(1, 2), 22);
        x.say(1, 2, 0, 6);
        Due.is("say at the end that was heard", x.hear(2, 3), 6);
    }

    private static ExchangeSystem withOneWaiting() {
        ExchangeSystem x = Due.system(2, "1a!1,1E!1");
        x.open(0, 1, 0);
        x.open(0, 0, 0);
        x.say(0, 0, 0, 5);
        return x;
    }

    private static void outOfRange() {
        ExchangeSystem x = withOneWaiting();
        for (int p : Due.outside(0, 3)) {
            Due.bad("hear(" + p + ", 1)", () -> x.hear(p, 1));
            Due.bad("hear(" + p + ", 4)", () -> x.hear(p, 4));
        }
        for (int e : Due.outside(0, 11)) {
            Due.bad("hear(1, " + e + ")", () -> x.hear(1, e));
            Due.bad("hear(2, " + e + ") of a dead process", () -> x.hear(2, e));
        }
        Due.is("count(6)", x.count(6), 0);
    }

    private static void notAlive() {
        ExchangeSystem x = withOneWaiting();
        Due.notYours("a process that never was", () -> x.hear(2, 1));
        x.kill(1);
        Due.notYours("a killed one at the end it had", () -> x.hear(1, 1));
        Due.notYours("a killed one at another's", () -> x.hear(1, 0));
        Due.is("count(6)", x.count(6), 0);
    }

    private static void endNotOwned() {
        ExchangeSystem x = withOneWaiting();
        Due.notYours("another's end", () -> x.hear(0, 1));
        Due.notYours("another's empty end", () -> x.hear(1, 0));
        Due.notYours("an end that never was open", () -> x.hear(0, 4));
        x.say(0, 2, 0, 5);
        x.say(0, 0, 6, 3);
        Due.notYours("an end that a message carries, by its sender", () -> x.hear(0, 3));
        Due.notYours("an end that a message carries, by its hearer", () -> x.hear(1, 3));
        x.close(0, 2);
        Due.notYours("an end that was closed", () -> x.hear(0, 2));
        Due.is("count(6)", x.count(6), 0);
    }

    /** An empty queue is none whatever the contract says; else it would be not yours. */
    private static void emptyQueue() {
        ExchangeSystem x = Due.system(1, "1a!0");
        x.open(0, 0, 0);
        Due.none("hear at side 0", () -> x.hear(0, 0));
        Due.none("hear at side 1", () -> x.hear(0, 1));
        x.say(0, 0, 0, 0);
        x.hear(0, 1);
        Due.none("hear when all is heard, in state 0", () -> x.hear(0, 1));
        Due.is("count(6)", x.count(6), 1);
        x.close(0, 0);
        Due.none("hear when the other end is closed", () -> x.hear(0, 1));
    }

    private static void noRuleFromThisState() {
        ExchangeSystem x = Due.system(2, "1a!2,1b?3,2c!2");
        x.open(0, 1, 0);
        x.say(0, 0, 0, 1);
        x.say(1, 1, 1, 2);
        Due.notYours("b in state 2", () -> x.hear(0, 0));
        Due.notYours("a in state 3", () -> x.hear(1, 1));
        Due.is("count(4)", x.count(4), 2);
    }

    /** A rule for the letter from this state is not enough. */
    private static void arrowOfTheOtherSide() {
        ExchangeSystem x = Due.system(1, "1a!2,2b!2,1b?3,3a?3");
        x.open(0, 0, 0);
        x.say(0, 0, 0, 1);
        x.say(0, 1, 1, 2);
        Due.notYours("b in state 2 is for side 0 to say", () -> x.hear(0, 0));
        Due.notYours("a in state 3 is for side 1 to say", () -> x.hear(0, 1));
        Due.is("count(4)", x.count(4), 2);
    }

    private static void stateZero() {
        ExchangeSystem x = Due.system(1, "1a!1,1b?0");
        x.open(0, 0, 0);
        x.say(0, 0, 0, 1);
        x.say(0, 1, 1, 2);
        Due.notYours("a in state 0", () -> x.hear(0, 1));
        Due.is("b in state 1", x.hear(0, 0), 18);
        Due.is("state", x.ofEnd(0, 1), 0);
    }

    private static void theMessageStays() {
        ExchangeSystem x = Due.system(2, "1a!2,1A?4,2b!1");
        x.open(0, 1, 0);
        x.block(1, 1);
        x.say(0, 0, 0, 1);
        x.say(1, 1, 3, 0);
        Due.notYours("A in state 2", () -> x.hear(0, 0));
        Due.notYours("A in state 2, again", () -> x.hear(0, 0));
        Due.is("messages", x.ofEnd(0, 2), 1);
        Due.is("state", x.ofEnd(0, 1), 2);
        Due.is("the block's owner", x.ofBlock(0, 0), 4);
        Due.is("choose", x.choose(0, 1), 0);
        Due.is("count(6)", x.count(6), 0);
        x.say(0, 0, 1, 2);
        Due.is("A in state 1", x.hear(0, 0), 48);
        Due.is("the block's owner", x.ofBlock(0, 0), 0);
    }

    private static void theChannelsContract() {
        ExchangeSystem x = Due.system(1, "1a!1");
        x.open(0, 0, 0);
        x.say(0, 0, 0, 1);
        Due.contract(x, 0, "1b!1");
        Due.is("hear by the channel's", x.hear(0, 1), 1);
        eachChannelItsOwn(0);
        eachChannelItsOwn(1);
    }

    private static void eachChannelItsOwn(int side) {
        ExchangeSystem x = new ExchangeSystem();
        for (int k = 0; k < 4; k++) {
            Due.contract(x, k, "1a!" + (k + 2) + ",1b?" + (k + 2));
        }
        for (int c = 0; c < 6; c++) {
            x.open(0, 0, (c + 1) % 4);
        }
        for (int c = 0; c < 6; c++) {
            x.say(0, 2 * c + side, side, c);
            Due.is("hear", x.hear(0, 2 * c + 1 - side), 16 * side + c);
            Due.is("state of the sayer", x.ofEnd(2 * c + side, 1), (c + 1) % 4 + 2);
            Due.is("state of the hearer", x.ofEnd(2 * c + 1 - side, 1), (c + 1) % 4 + 2);
        }
    }

    private static void stateGoesOn() {
        ExchangeSystem x = Due.system(1, "1a?2,2a?3,3a?4,4a?5,5a?6,6a?1");
        x.open(0, 0, 0);
        for (int round = 0; round < 12; round++) {
            x.say(0, 1, 0, round);
            x.hear(0, 0);
            Due.is("the hearer's state", x.ofEnd(0, 1), (round + 1) % 6 + 1);
        }
    }

    private static void theOtherStateStays() {
        ExchangeSystem x = Due.system(1, "1a!2,2a!3,3a!4");
        x.open(0, 0, 0);
        for (int m = 0; m < 3; m++) {
            x.say(0, 0, 0, m);
        }
        for (int m = 0; m < 3; m++) {
            Due.is("the sayer's state", x.ofEnd(0, 1), 4);
            Due.is("the hearer's state", x.ofEnd(1, 1), m + 1);
            x.hear(0, 1);
        }
        Due.is("the hearer's state", x.ofEnd(1, 1), 4);
    }

    private static void lowestFourBits() {
        ExchangeSystem x = Due.system(1, "1a?1,1b?1,1c?1");
        x.open(0, 0, 0);
        int[] values = {0, 1, 8, 15, 16, 17, 31, 255, -1, -15, -16, -17, Integer.MIN_VALUE, Integer.MAX_VALUE, 0x1234567a};
        for (int letter = 0; letter < 3; letter++) {
            for (int value : values) {
                x.say(0, 1, letter, value);
                Due.is("hear " + letter + " with " + value, x.hear(0, 0), 16 * letter + (value & 15));
            }
        }
    }

    private static void numbersOfBlocks() {
        ExchangeSystem x = Due.system(1, "1A?1,1B?1,1C?1");
        x.open(0, 0, 0);
        Due.handOut(x, 0, 12, 1);
        for (int b = 0; b < 12; b++) {
            for (int letter = 3; letter < 6; letter++) {
                x.say(0, 1, letter, b);
                Due.is("hear block " + b, x.hear(0, 0), 16 * letter + b);
            }
        }
    }

    private static void numbersOfEnds() {
        ExchangeSystem x = Due.system(1, "1E!1");
        Due.openOwn(x, 6);
        for (int e = 0; e < 12; e++) {
            int through = e < 2 ? 4 : 0;
            x.say(0, through, 6, e);
            Due.is("hear end " + e, x.hear(0, through + 1), 96 + e);
            Due.is("owner", x.ofEnd(e, 0), 0);
        }
    }

    private static void sayerClosed() {
        ExchangeSystem x = Due.system(2, "1a!2,2A!3");
        x.open(0, 1, 0);
        x.block(0, 1);
        x.say(0, 0, 0, 1);
        x.say(0, 0, 3, 0);
        x.close(0, 0);
        Due.is("messages", x.ofEnd(1, 2), 2);
        Due.is("hear", x.hear(1, 1), 1);
        x.kill(0);
        Due.is("hear", x.hear(1, 1), 48);
        Due.is("state", x.ofEnd(1, 1), 3);
        Due.is("owner", x.ofBlock(0, 0), 1);
    }
}
