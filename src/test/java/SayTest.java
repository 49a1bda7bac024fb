/** Promise 11, and what "Terms" says of MESSAGES and of SAYING. */
public final class SayTest {
    private static final String ALL = "1a!1,1b!1,1c!1,1A!1,1B!1,1C!1,1E!1";

    public static void main(String[] args) {
        saying();
        loads();
        queues();
        Due.end();
    }

    private static void saying() {
        Due.sentence("Process p SAYS the letter (0 a .. 2 c, 3 A .. 5 C, 6 E).", SayTest::lettersByNumber);
        Due.sentence("The letter too small or too large: bad.", SayTest::lettersOutOfRange);
        Due.sentence("p or e out of range: bad.", SayTest::outOfRange);
        Due.sentence("A process that isn't ALIVE: not yours.", SayTest::notAlive);
        Due.sentence("An END that it doesn't OWN or that is CLOSED: not yours.", SayTest::endNotOwned);
        Due.sentence("The contract needs a RULE with the STATE of this END.", SayTest::stateOfThisEnd);
        Due.sentence("A RULE with the LETTER.", SayTest::ruleForTheLetter);
        Due.sentence("A RULE with the ARROW of its SIDE.", SayTest::arrowOfItsSide);
        Due.sentence("From STATE 0 there is no RULE.", SayTest::nothingFromStateZero);
        Due.sentence("The STATE becomes the one behind.", SayTest::stateBecomesTheOneBehind);
        Due.sentence("Both ENDS go on by themselves.", SayTest::theOtherStateStays);
    }

    private static void loads() {
        Due.sentence("With a .. c any value is said, and nothing sent.", SayTest::lettersWithoutLoad);
        Due.sentence("With A .. C it sends the BLOCK of that number.", SayTest::blocksAreSent);
        Due.sentence("With E the END of that number.", SayTest::endsAreSent);
        Due.sentence("For what is carried the OWNER is the MESSAGE.", SayTest::theMessageOwns);
        Due.sentence("Neither e.", SayTest::notTheEndItself);
        Due.sentence("Nor the other END of its CHANNEL.", SayTest::notItsOtherEnd);
        Due.sentence("Which p must OWN: a BLOCK; else not yours.", SayTest::blockNotOwned);
        Due.sentence("Which p must OWN: an END; else not yours.", SayTest::endToSendNotOwned);
        Due.sentence("For a number that is none, not yours.", SayTest::numberThatIsNone);
        Due.sentence("The contract is looked at before that.", SayTest::contractBeforeLoad);
    }

    private static void queues() {
        Due.sentence("The MESSAGE is at the end of the other END's QUEUE.", SayTest::atTheEndOfTheQueue);
        Due.sentence("A QUEUE of MESSAGES, at most 3: a full QUEUE is not yours.", SayTest::fullQueue);
        Due.sentence("A QUEUE has room again when one was heard.", SayTest::roomAgain);
        Due.sentence("Each END has a QUEUE of its own.", SayTest::eachItsOwnQueue);
        Due.sentence("The other END is CLOSED: none.", SayTest::otherEndClosed);
        Due.sentence("After all that is not yours.", SayTest::notYoursBeforeClosed);
        Due.sentence("The other END may be carried.", SayTest::otherEndCarried);
    }

    private static void lettersByNumber() {
        String letters = "abcABCE";
        for (int letter = 0; letter < 7; letter++) {
            ExchangeSystem x = Due.system(1, "1" + letters.charAt(letter) + "!2");
            Due.openOwn(x, 2);
            Due.handOut(x, 0, 3, 1);
            for (int other = 0; other < 7; other++) {
                int said = other;
                if (other != letter) {
                    Due.notYours("say " + other + " for " + letters.charAt(letter), () -> x.say(0, 0, said, 2));
                }
            }
            x.say(0, 0, letter, 2);
            Due.is("hear " + letters.charAt(letter), x.hear(0, 1), 16 * letter + 2);
        }
    }

    private static void lettersOutOfRange() {
        ExchangeSystem x = Due.system(1, ALL);
        x.open(0, 0, 0);
        for (int letter : Due.outside(0, 6)) {
            Due.bad("say letter " + letter, () -> x.say(0, 0, letter, 0));
            Due.bad("say letter " + letter + ", dead", () -> x.say(3, 0, letter, 0));
            Due.bad("say letter " + letter + " at a closed end", () -> x.say(0, 5, letter, 0));
        }
        Due.is("count(5)", x.count(5), 0);
    }

    private static void outOfRange() {
        ExchangeSystem x = Due.system(1, ALL);
        x.open(0, 0, 0);
        for (int p : Due.outside(0, 3)) {
            Due.bad("say by " + p, () -> x.say(p, 0, 0, 0));
            Due.bad("say by " + p + " at a closed end", () -> x.say(p, 4, 0, 0));
        }
        for (int e : Due.outside(0, 11)) {
            Due.bad("say at " + e, () -> x.say(0, e, 0, 0));
            Due.bad("say at " + e + ", dead", () -> x.say(3, e, 0, 0));
        }
        Due.is("count(5)", x.count(5), 0);
    }

    private static void notAlive() {
        ExchangeSystem x = Due.system(2, ALL);
        x.open(0, 1, 0);
        Due.notYours("a process that never was", () -> x.say(2, 0, 0, 0));
        x.kill(0);
        Due.notYours("a killed one at the end it had", () -> x.say(0, 0, 0, 0));
        Due.notYours("a killed one at another's", () -> x.say(0, 1, 0, 0));
    }

    private static void endNotOwned() {
        ExchangeSystem x = Due.system(2, "1a!1,1b?1,1E!1");
        x.open(0, 1, 0);
        x.open(0, 0, 0);
        Due.notYours("another's end", () -> x.say(1, 0, 0, 0));
        Due.notYours("another's end", () -> x.say(0, 1, 1, 0));
        Due.notYours("an end that never was open", () -> x.say(0, 4, 0, 0));
        x.say(0, 0, 6, 2);
        Due.notYours("an end that a message carries, by its sender", () -> x.say(0, 2, 0, 0));
        Due.notYours("an end that a message carries, by its hearer", () -> x.say(1, 2, 0, 0));
        x.hear(1, 1);
        Due.notYours("an end given away", () -> x.say(0, 2, 0, 0));
        x.say(1, 2, 0, 0);
        x.close(0, 0);
        Due.notYours("an end that was closed", () -> x.say(0, 0, 0, 0));
    }

    private static void stateOfThisEnd() {
        ExchangeSystem x = Due.system(2, "1a!2,2b?1,2c!3");
        x.open(0, 1, 0);
        Due.notYours("c in state 1", () -> x.say(0, 0, 2, 0));
        x.say(0, 0, 0, 0);
        Due.notYours("a in state 2", () -> x.say(0, 0, 0, 0));
        Due.notYours("b before a is heard, in state 1", () -> x.say(1, 1, 1, 0));
        x.hear(1, 1);
        x.say(1, 1, 1, 0);
        x.say(0, 0, 2, 0);
        Due.is("count(5)", x.count(5), 3);
    }

    private static void ruleForTheLetter() {
        ExchangeSystem x = Due.system(1, "1b!1,1B!1");
        Due.openOwn(x, 2);
        Due.handOut(x, 0, 3, 1);
        int[] forbidden = {0, 2, 3, 5, 6};
        for (int letter : forbidden) {
            Due.notYours("say " + letter, () -> x.say(0, 0, letter, 2));
        }
        x.say(0, 0, 1, 2);
        x.say(0, 0, 4, 2);
        Due.is("count(5)", x.count(5), 2);
    }

    private static void arrowOfItsSide() {
        ExchangeSystem x = Due.system(1, "1a!1,1b?1");
        x.open(0, 0, 0);
        Due.notYours("b from side 0", () -> x.say(0, 0, 1, 0));
        Due.notYours("a from side 1", () -> x.say(0, 1, 0, 0));
        x.say(0, 0, 0, 0);
        x.say(0, 1, 1, 0);
        Due.is("count(5)", x.count(5), 2);
    }

    private static void nothingFromStateZero() {
        ExchangeSystem x = Due.system(1, "1a!0,1b?0");
        Due.openOwn(x, 2);
        x.block(0, 1);
        x.say(0, 0, 0, 0);
        x.say(0, 1, 1, 0);
        for (int e = 0; e < 2; e++) {
            Due.is("state", x.ofEnd(e, 1), 0);
            for (int letter = 0; letter < 7; letter++) {
                int end = e;
                int said = letter;
                Due.notYours("say " + letter + " in state 0", () -> x.say(0, end, said, letterValue(said)));
            }
        }
    }

    private static int letterValue(int letter) {
        return letter == 6 ? 2 : 0;
    }

    private static void stateBecomesTheOneBehind() {
        ExchangeSystem x = Due.system(1, "1a!2,2a!3,3a!4,4a!5,5a!6,6a!1");
        x.open(0, 0, 0);
        for (int round = 0; round < 12; round++) {
            x.say(0, 0, 0, round);
            Due.is("the sayer's state", x.ofEnd(0, 1), (round + 1) % 6 + 1);
            x.hear(0, 1);
        }
    }

    private static void theOtherStateStays() {
        ExchangeSystem x = Due.system(1, "1a!2,2a!3,1b?4");
        x.open(0, 0, 0);
        x.say(0, 0, 0, 0);
        Due.is("the sayer's state", x.ofEnd(0, 1), 2);
        Due.is("the other's state", x.ofEnd(1, 1), 1);
        x.say(0, 0, 0, 0);
        Due.is("the sayer's state", x.ofEnd(0, 1), 3);
        Due.is("the other's state", x.ofEnd(1, 1), 1);
        x.say(0, 1, 1, 0);
        Due.is("the first sayer's state", x.ofEnd(0, 1), 3);
        Due.is("the other's state", x.ofEnd(1, 1), 4);
    }

    private static void lettersWithoutLoad() {
        ExchangeSystem x = Due.system(2, ALL);
        x.open(0, 0, 0);
        x.open(0, 1, 0);
        x.block(0, 1);
        x.block(1, 1);
        int[] values = {0, 1, 2, 3, -1, 12, Integer.MIN_VALUE, Integer.MAX_VALUE};
        for (int value : values) {
            for (int letter = 0; letter < 3; letter++) {
                x.say(0, 0, letter, value);
            }
            Due.is("own block", x.ofBlock(0, 0), 0);
            Due.is("another's block", x.ofBlock(1, 0), 1);
            Due.is("own end", x.ofEnd(2, 0), 0);
            Due.is("another's end", x.ofEnd(3, 0), 1);
            for (int letter = 0; letter < 3; letter++) {
                Due.is("hear", x.hear(0, 1), 16 * letter + (value & 15));
            }
            Due.is("another's block", x.ofBlock(1, 0), 1);
            Due.is("another's end", x.ofEnd(3, 0), 1);
        }
        Due.is("count(1)", x.count(1), 2);
        Due.is("count(3)", x.count(3), 4);
    }

    private static void blocksAreSent() {
        for (int letter = 3; letter < 6; letter++) {
            ExchangeSystem x = Due.system(2, ALL);
            x.open(0, 1, 0);
            Due.handOut(x, 0, 12, 1);
            int[] sent = {0, 11, 5};
            for (int b : sent) {
                x.say(0, 0, letter, b);
                Due.is("owner", x.ofBlock(b, 0), 4);
                Due.is("cells", x.ofBlock(b, 1), 1);
            }
            Due.is("count(1)", x.count(1), 12);
            Due.is("owner of another", x.ofBlock(1, 0), 0);
            Due.is("ends are not sent", x.ofEnd(0, 0), 0);
        }
    }

    private static void endsAreSent() {
        ExchangeSystem x = Due.system(2, ALL);
        x.open(0, 1, 0);
        for (int c = 1; c < 6; c++) {
            x.open(0, 0, 0);
        }
        Due.handOut(x, 0, 12, 1);
        int[] sent = {2, 11, 3};
        for (int e : sent) {
            x.say(0, 0, 6, e);
            Due.is("owner", x.ofEnd(e, 0), 4);
            Due.is("state", x.ofEnd(e, 1), 1);
            Due.is("a block of its number is not sent", x.ofBlock(e, 0), 0);
        }
        Due.is("owner of another", x.ofEnd(10, 0), 0);
        Due.is("count(3)", x.count(3), 12);
    }

    private static void theMessageOwns() {
        ExchangeSystem x = Due.system(2, ALL);
        x.open(0, 1, 0);
        Due.openOwn(x, 1);
        x.block(0, 1);
        x.say(0, 0, 3, 0);
        x.say(0, 0, 6, 2);
        for (int p = 0; p < 2; p++) {
            int process = p;
            Due.notYours("read by " + p, () -> x.read(process, 0, 0));
            Due.notYours("close by " + p, () -> x.close(process, 2));
        }
        Due.notYours("send the block twice", () -> x.say(0, 0, 3, 0));
        Due.notYours("send the end twice", () -> x.say(0, 0, 6, 2));
        Due.is("owner of the block", x.ofBlock(0, 0), 4);
        Due.is("owner of the end", x.ofEnd(2, 0), 4);
    }

    private static void notTheEndItself() {
        ExchangeSystem x = Due.system(1, "1E!1,2E?2,1a?2");
        Due.openOwn(x, 6);
        for (int e = 0; e < 12; e++) {
            int end = e;
            if ((e & 1) == 1) {
                x.say(0, e, 0, 0);
            }
            Due.notYours("end " + e + " at itself", () -> x.say(0, end, 6, end));
            Due.is("owner", x.ofEnd(e, 0), 0);
        }
    }

    private static void notItsOtherEnd() {
        ExchangeSystem x = Due.system(1, "1E!1,2E?2,1a?2");
        Due.openOwn(x, 6);
        for (int e = 0; e < 12; e++) {
            int end = e;
            if ((e & 1) == 1) {
                x.say(0, e, 0, 0);
            }
            Due.notYours("the other end of " + e, () -> x.say(0, end, 6, end ^ 1));
            Due.is("owner", x.ofEnd(e ^ 1, 0), 0);
        }
        x.say(0, 0, 6, 2);
        x.say(0, 0, 6, 3);
        Due.is("both ends of another channel", x.ofEnd(1, 2), 2);
    }

    private static void blockNotOwned() {
        ExchangeSystem x = Due.system(2, ALL);
        x.open(0, 1, 0);
        Due.handOut(x, 0, 3, 1);
        x.block(1, 1);
        x.free(0, 0);
        x.say(0, 0, 3, 1);
        for (int letter = 3; letter < 6; letter++) {
            int said = letter;
            Due.notYours("another's block", () -> x.say(0, 0, said, 3));
            Due.notYours("a block that was freed", () -> x.say(0, 0, said, 0));
            Due.notYours("a block that never was", () -> x.say(0, 0, said, 11));
            Due.notYours("a sent block", () -> x.say(0, 0, said, 1));
        }
        x.hear(1, 1);
        Due.notYours("a block given away", () -> x.say(0, 0, 3, 1));
        x.say(0, 0, 3, 2);
        Due.is("count(5)", x.count(5), 2);
    }

    private static void endToSendNotOwned() {
        ExchangeSystem x = Due.system(2, ALL);
        x.open(0, 1, 0);
        x.open(1, 0, 0);
        x.open(0, 0, 0);
        x.open(0, 0, 0);
        x.close(0, 6);
        Due.notYours("another's end", () -> x.say(0, 0, 6, 2));
        Due.notYours("an end that was closed", () -> x.say(0, 0, 6, 6));
        Due.notYours("an end that never was open", () -> x.say(0, 0, 6, 8));
        x.say(0, 0, 6, 5);
        Due.notYours("a sent end", () -> x.say(0, 0, 6, 5));
        x.hear(1, 1);
        Due.notYours("an end given away", () -> x.say(0, 0, 6, 5));
        x.say(0, 0, 6, 7);
        Due.is("count(5)", x.count(5), 2);
    }

    private static void numberThatIsNone() {
        ExchangeSystem x = Due.system(1, ALL);
        Due.openOwn(x, 6);
        Due.handOut(x, 0, 12, 1);
        int[] none = {-1, 12, 13, 16, 18, 256, Integer.MIN_VALUE, Integer.MAX_VALUE};
        for (int number : none) {
            for (int letter = 3; letter < 7; letter++) {
                numberRefused(x, letter, number);
            }
        }
        Due.is("count(5)", x.count(5), 0);
    }

    /** At an end of every channel: a number that is none must not be taken for one of the own channel. */
    private static void numberRefused(ExchangeSystem x, int letter, int number) {
        for (int e = 0; e < 12; e += 2) {
            int speaker = e;
            Due.notYours("say " + letter + " with " + number + " at " + e, () -> x.say(0, speaker, letter, number));
        }
    }

    /** Both are not yours, so which of them comes first can't be seen. */
    private static void contractBeforeLoad() {
        ExchangeSystem x = Due.system(2, "1a!1,2A!2,2E!2");
        x.open(0, 1, 0);
        x.block(1, 1);
        int[] values = {0, 1, 12, -1};
        for (int value : values) {
            for (int letter = 3; letter < 7; letter++) {
                int said = letter;
                Due.notYours("forbidden, and not one's own", () -> x.say(0, 0, said, value));
            }
        }
        Due.is("count(5)", x.count(5), 0);
    }

    private static void atTheEndOfTheQueue() {
        ExchangeSystem x = Due.system(1, "1a!1,1b!1,1c!1");
        x.open(0, 0, 0);
        x.say(0, 0, 2, 1);
        x.say(0, 0, 0, 2);
        Due.is("messages for the other end", x.ofEnd(1, 2), 2);
        Due.is("messages for the sayer", x.ofEnd(0, 2), 0);
        Due.is("the first", x.hear(0, 1), 33);
        x.say(0, 0, 1, 3);
        x.say(0, 0, 2, 4);
        Due.is("the second", x.hear(0, 1), 2);
        Due.is("the third", x.hear(0, 1), 19);
        Due.is("the fourth", x.hear(0, 1), 36);
    }

    private static ExchangeSystem withFullQueue() {
        ExchangeSystem x = Due.system(2, "1a!1,1A!1,1E!1,1b?1");
        x.open(0, 1, 0);
        x.open(0, 0, 0);
        x.block(0, 1);
        for (int m = 1; m <= 3; m++) {
            x.say(0, 0, 0, m);
        }
        return x;
    }

    private static void fullQueue() {
        ExchangeSystem x = withFullQueue();
        Due.is("three are in it", x.ofEnd(1, 2), 3);
        Due.notYours("a fourth", () -> x.say(0, 0, 0, 4));
        Due.notYours("a fourth with a block", () -> x.say(0, 0, 3, 0));
        Due.notYours("a fourth with an end", () -> x.say(0, 0, 6, 2));
        Due.is("the block stays", x.ofBlock(0, 0), 0);
        Due.is("the end stays", x.ofEnd(2, 0), 0);
        Due.is("count(5)", x.count(5), 3);
        for (int m = 1; m <= 3; m++) {
            Due.is("hear", x.hear(1, 1), m);
        }
    }

    private static void roomAgain() {
        ExchangeSystem x = withFullQueue();
        for (int round = 4; round < 12; round++) {
            Due.is("hear", x.hear(1, 1), round - 3);
            x.say(0, 0, 0, round);
            Due.notYours("one too many", () -> x.say(0, 0, 0, 0));
        }
    }

    private static void eachItsOwnQueue() {
        ExchangeSystem x = withFullQueue();
        for (int m = 1; m <= 3; m++) {
            x.say(1, 1, 1, m);
            x.say(0, 2, 0, m);
        }
        Due.is("count(4)", x.count(4), 9);
        Due.is("messages for end 0", x.ofEnd(0, 2), 3);
        Due.is("messages for end 1", x.ofEnd(1, 2), 3);
        Due.is("messages for end 2", x.ofEnd(2, 2), 0);
        Due.is("messages for end 3", x.ofEnd(3, 2), 3);
        Due.notYours("a fourth for end 0", () -> x.say(1, 1, 1, 4));
    }

    /** Process 0 owns end 0, in state 2, whose other end is closed, and end 2, block 0. */
    private static ExchangeSystem withClosedOtherEnd() {
        ExchangeSystem x = Due.system(2, "1a!2,2A!2,2E!2,2b!2,1c?1");
        x.open(0, 1, 0);
        x.block(0, 1);
        x.block(1, 1);
        x.open(0, 1, 0);
        x.say(0, 0, 0, 1);
        x.close(1, 1);
        return x;
    }

    private static void otherEndClosed() {
        ExchangeSystem x = Due.system(2, ALL);
        x.open(0, 1, 0);
        x.open(0, 0, 0);
        x.block(0, 1);
        x.close(1, 1);
        for (int letter = 0; letter < 7; letter++) {
            int said = letter;
            Due.none("say " + letter, () -> x.say(0, 0, said, letterValue(said)));
        }
        Due.is("state", x.ofEnd(0, 1), 1);
        Due.is("count(5)", x.count(5), 0);
        Due.is("messages for a closed end", x.ofEnd(1, 2), 0);
        Due.is("the block stays", x.ofBlock(0, 0), 0);
        Due.is("the end stays", x.ofEnd(2, 0), 0);
    }

    private static void notYoursBeforeClosed() {
        ExchangeSystem x = withClosedOtherEnd();
        Due.none("nothing but the closed end", () -> x.say(0, 0, 3, 0));
        Due.none("nothing but the closed end", () -> x.say(0, 0, 6, 2));
        Due.none("nothing but the closed end", () -> x.say(0, 0, 1, 2));
        Due.notYours("what the contract forbids", () -> x.say(0, 0, 0, 0));
        Due.notYours("another's block", () -> x.say(0, 0, 3, 1));
        Due.notYours("a free block", () -> x.say(0, 0, 3, 2));
        Due.notYours("no block", () -> x.say(0, 0, 3, 12));
        Due.notYours("another's end", () -> x.say(0, 0, 6, 3));
        Due.notYours("a closed end", () -> x.say(0, 0, 6, 4));
        Due.notYours("no end", () -> x.say(0, 0, 6, -1));
        Due.notYours("the end itself", () -> x.say(0, 0, 6, 0));
        Due.notYours("its closed other end", () -> x.say(0, 0, 6, 1));
        Due.notYours("another process", () -> x.say(1, 0, 3, 0));
        Due.notYours("a dead process", () -> x.say(2, 0, 3, 0));
        Due.notYours("at the closed end", () -> x.say(1, 1, 2, 0));
        Due.bad("no letter", () -> x.say(0, 0, 7, 0));
    }

    private static void otherEndCarried() {
        ExchangeSystem x = Due.system(2, ALL);
        x.open(0, 1, 0);
        x.open(0, 0, 0);
        x.say(0, 2, 0, 7);
        x.say(0, 0, 6, 3);
        x.say(0, 2, 0, 8);
        Due.is("messages for a carried end", x.ofEnd(3, 2), 2);
        x.say(0, 2, 0, 9);
        Due.notYours("its queue is full", () -> x.say(0, 2, 0, 10));
        Due.is("hear the end", x.hear(1, 1), 99);
        for (int m = 7; m <= 9; m++) {
            Due.is("hear at it", x.hear(1, 3), m);
        }
    }
}
