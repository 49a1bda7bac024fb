/** Promise 11, and SAYING under "Terms". */
public final class SayTest {
    private static final String ALL = "1a!1,1b!1,1c!1,1A!1,1B!1,1C!1,1E!1";

    public static void main(String[] args) {
        wrongNumbers();
        notOwned();
        contractsForbid();
        statesGoOn();
        blocksAreSent();
        endsAreSent();
        wrongLoads();
        fullQueues();
        closedOtherEnds();
        Due.end();
    }

    private static void wrongNumbers() {
        ExchangeSystem x = Due.system(2, ALL);
        x.open(0, 1, 0);
        int[] far = {-1, Integer.MIN_VALUE, Integer.MAX_VALUE};
        for (int number : far) {
            Due.bad("say(" + number + ", 0, 0, 0)", () -> x.say(number, 0, 0, 0));
            Due.bad("say(0, " + number + ", 0, 0)", () -> x.say(0, number, 0, 0));
            Due.bad("say(0, 0, " + number + ", 0)", () -> x.say(0, 0, number, 0));
        }
        Due.bad("say(4, 0, 0, 0)", () -> x.say(4, 0, 0, 0));
        Due.bad("say(0, 12, 0, 0)", () -> x.say(0, 12, 0, 0));
        Due.bad("say(0, 0, 7, 0)", () -> x.say(0, 0, 7, 0));
        Due.bad("say(3, 0, 7, 0) of a dead process", () -> x.say(3, 0, 7, 0));
        Due.bad("say(0, 5, 7, 0) at a closed end", () -> x.say(0, 5, 7, 0));
        Due.is("count(5)", x.count(5), 0);
    }

    private static void notOwned() {
        ExchangeSystem x = Due.system(2, "1a!1,1b?1,1E!1");
        x.open(0, 1, 0);
        x.open(0, 0, 0);
        Due.notYours("another's end", () -> x.say(1, 0, 0, 0));
        Due.notYours("another's end", () -> x.say(0, 1, 1, 0));
        Due.notYours("a closed end", () -> x.say(0, 4, 0, 0));
        Due.notYours("a dead process", () -> x.say(2, 0, 0, 0));
        x.say(0, 0, 6, 2);
        Due.notYours("an end that a message carries", () -> x.say(0, 2, 0, 0));
        x.close(0, 0);
        Due.notYours("an end that was closed", () -> x.say(0, 0, 0, 0));
    }

    private static void contractsForbid() {
        ExchangeSystem x = Due.system(2, "1a!2,2b?1,2c!0");
        x.open(0, 1, 0);
        Due.notYours("b in state 1", () -> x.say(1, 1, 1, 0));
        Due.notYours("a from side 1", () -> x.say(1, 1, 0, 0));
        x.say(0, 0, 0, 3);
        Due.notYours("a in state 2", () -> x.say(0, 0, 0, 3));
        Due.notYours("b from side 0", () -> x.say(0, 0, 1, 3));
        Due.notYours("b before a is heard", () -> x.say(1, 1, 1, 3));
        x.hear(1, 1);
        x.say(1, 1, 1, 3);
        Due.is("state of 0", x.ofEnd(0, 1), 2);
        Due.is("state of 1", x.ofEnd(1, 1), 1);
        x.say(0, 0, 2, 3);
        Due.is("state 0", x.ofEnd(0, 1), 0);
        for (int letter = 0; letter < 7; letter++) {
            int said = letter;
            Due.notYours("say " + letter + " in state 0", () -> x.say(0, 0, said, 0));
        }
    }

    private static void statesGoOn() {
        ExchangeSystem x = Due.system(1, "1a!2,2a!3,3a!4,4a!5,5a!6,6a!1");
        x.open(0, 0, 0);
        for (int round = 0; round < 12; round++) {
            x.say(0, 0, 0, round);
            Due.is("the sayer's state", x.ofEnd(0, 1), (round + 1) % 6 + 1);
            Due.is("the hearer's state", x.ofEnd(1, 1), round % 6 + 1);
            Due.is("messages", x.ofEnd(1, 2), 1);
            Due.is("messages of the sayer", x.ofEnd(0, 2), 0);
            Due.is("hear", x.hear(0, 1), round);
        }
        Due.is("count(5)", x.count(5), 12);
    }

    private static void blocksAreSent() {
        ExchangeSystem x = Due.system(2, ALL);
        x.open(0, 1, 0);
        for (int b = 0; b < 12; b++) {
            x.block(0, 1);
        }
        for (int letter = 3; letter < 6; letter++) {
            x.say(0, 0, letter, letter + 6);
            Due.is("owner", x.ofBlock(letter + 6, 0), 4);
            Due.is("cells", x.ofBlock(letter + 6, 1), 1);
        }
        Due.is("count(1)", x.count(1), 12);
        Due.is("owner of another", x.ofBlock(8, 0), 0);
        Due.is("messages", x.ofEnd(1, 2), 3);
    }

    private static void endsAreSent() {
        ExchangeSystem x = Due.system(2, ALL);
        x.open(0, 1, 0);
        x.open(0, 0, 0);
        x.say(0, 2, 0, 7);
        x.say(0, 0, 6, 3);
        Due.is("owner", x.ofEnd(3, 0), 4);
        Due.is("state", x.ofEnd(3, 1), 1);
        Due.is("messages", x.ofEnd(3, 2), 1);
        x.say(0, 2, 0, 8);
        Due.is("messages for a carried end", x.ofEnd(3, 2), 2);
        Due.is("hear the end", x.hear(1, 1), 99);
        Due.is("hear at it", x.hear(1, 3), 7);
        Due.is("hear at it", x.hear(1, 3), 8);
        x.say(0, 0, 6, 2);
        Due.is("both ends of a channel may go", x.hear(1, 1), 98);
    }

    private static void wrongLoads() {
        ExchangeSystem x = Due.system(2, ALL);
        x.open(0, 1, 0);
        x.open(1, 0, 0);
        x.open(0, 0, 0);
        x.block(1, 1);
        x.block(0, 1);
        int[] none = {-1, 12, 16, Integer.MIN_VALUE, Integer.MAX_VALUE};
        String before = Due.picture(x);
        for (int number : none) {
            for (int letter = 3; letter < 7; letter++) {
                int said = letter;
                Due.notYours("say(0, 0, " + letter + ", " + number + ")", () -> x.say(0, 0, said, number));
            }
        }
        for (int letter = 3; letter < 6; letter++) {
            int said = letter;
            Due.notYours("another's block", () -> x.say(0, 0, said, 0));
            Due.notYours("a free block", () -> x.say(0, 0, said, 2));
        }
        Due.notYours("the end itself", () -> x.say(0, 0, 6, 0));
        Due.notYours("its other end, another's", () -> x.say(0, 0, 6, 1));
        Due.notYours("the end itself", () -> x.say(0, 4, 6, 4));
        Due.notYours("its other end, one's own", () -> x.say(0, 4, 6, 5));
        Due.notYours("another's end", () -> x.say(0, 0, 6, 2));
        Due.notYours("a closed end", () -> x.say(0, 0, 6, 6));
        Due.same("what it was", Due.picture(x), before);
        x.say(0, 0, 6, 5);
        x.say(0, 0, 3, 1);
        Due.notYours("a sent end", () -> x.say(0, 0, 6, 5));
        Due.notYours("a sent block", () -> x.say(0, 0, 4, 1));
        int[] any = {-1, 12, Integer.MIN_VALUE, Integer.MAX_VALUE};
        for (int value : any) {
            x.say(0, 4, 0, value);
            Due.is("the lowest four bits", value & 15, hearOnce(x));
        }
    }

    private static int hearOnce(ExchangeSystem x) {
        if (x.ofEnd(5, 0) == 4) {
            x.hear(1, 1);
        }
        return x.hear(1, 5);
    }

    private static void fullQueues() {
        ExchangeSystem x = Due.system(2, "1a!1,1A!1,1b?1");
        x.open(0, 1, 0);
        x.block(0, 1);
        for (int i = 1; i <= 3; i++) {
            x.say(0, 0, 0, i);
            Due.is("messages", x.ofEnd(1, 2), i);
        }
        String before = Due.picture(x);
        Due.notYours("a fourth", () -> x.say(0, 0, 0, 4));
        Due.notYours("a fourth with a block", () -> x.say(0, 0, 3, 0));
        Due.same("what it was", Due.picture(x), before);
        x.say(1, 1, 1, 0);
        Due.is("the other queue has room", x.ofEnd(0, 2), 1);
        Due.is("hear", x.hear(1, 1), 1);
        x.say(0, 0, 3, 0);
        Due.is("hear", x.hear(1, 1), 2);
        Due.is("hear", x.hear(1, 1), 3);
        Due.is("hear", x.hear(1, 1), 48);
        Due.is("count(5)", x.count(5), 5);
    }

    private static void closedOtherEnds() {
        ExchangeSystem x = Due.system(2, "1a!2,2A!2,2E!2,2b?2");
        x.open(0, 1, 0);
        x.block(0, 1);
        x.block(1, 1);
        x.open(0, 1, 0);
        x.say(0, 0, 0, 1);
        x.close(1, 1);
        String before = Due.picture(x);
        Due.none("a block to a closed end", () -> x.say(0, 0, 3, 0));
        Due.none("an end to a closed end", () -> x.say(0, 0, 6, 2));
        Due.notYours("what the contract forbids", () -> x.say(0, 0, 0, 0));
        Due.notYours("another's block", () -> x.say(0, 0, 3, 1));
        Due.notYours("another's end", () -> x.say(0, 0, 6, 3));
        Due.notYours("the end itself", () -> x.say(0, 0, 6, 0));
        Due.notYours("its closed other end", () -> x.say(0, 0, 6, 1));
        Due.notYours("no block", () -> x.say(0, 0, 3, 12));
        Due.notYours("another process", () -> x.say(1, 0, 3, 0));
        Due.bad("no letter", () -> x.say(0, 0, 7, 0));
        Due.same("what it was", Due.picture(x), before);
    }
}
