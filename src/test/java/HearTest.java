/** Promise 12, and being HEARD under "Terms". */
public final class HearTest {
    public static void main(String[] args) {
        answers();
        firstInFirstOut();
        wrongNumbersAndOwners();
        emptyBeforeForbidden();
        forbiddenStays();
        carriedIsOwned();
        theOtherEndMayBeClosed();
        Due.end();
    }

    private static void answers() {
        ExchangeSystem x = Due.system(1, "1a?1,1b?1,1c?1,1A?1,1B?1,1C?1,1E?1");
        x.open(0, 0, 0);
        for (int c = 1; c < 6; c++) {
            x.open(0, 0, 0);
        }
        for (int b = 0; b < 12; b++) {
            x.block(0, 1);
        }
        int[] values = {0, 1, 15, 16, 31, -1, -16, Integer.MIN_VALUE, Integer.MAX_VALUE, 0x12345678};
        for (int letter = 0; letter < 3; letter++) {
            for (int value : values) {
                x.say(0, 1, letter, value);
                Due.is("hear " + letter + " with " + value, x.hear(0, 0), 16 * letter + (value & 15));
            }
        }
        for (int b = 0; b < 12; b++) {
            x.say(0, 1, 3 + b % 3, b);
            Due.is("hear block " + b, x.hear(0, 0), 16 * (3 + b % 3) + b);
        }
        for (int e = 2; e < 12; e++) {
            x.say(0, 1, 6, e);
            Due.is("hear end " + e, x.hear(0, 0), 96 + e);
        }
        Due.is("count(6)", x.count(6), 52);
        Due.is("count(7)", x.count(7), 0);
    }

    private static void firstInFirstOut() {
        ExchangeSystem x = Due.system(1, "1a!1,1b!1");
        x.open(0, 0, 0);
        int heard = 0;
        int said = 0;
        for (int round = 0; round < 6; round++) {
            while (x.ofEnd(1, 2) < 3) {
                x.say(0, 0, said & 1, said);
                said++;
            }
            for (int i = 0; i <= round % 3; i++) {
                Due.is("hear", x.hear(0, 1), 16 * (heard & 1) + (heard & 15));
                heard++;
            }
            Due.is("messages", x.ofEnd(1, 2), 2 - round % 3);
        }
    }

    private static void wrongNumbersAndOwners() {
        ExchangeSystem x = Due.system(2, "1a!1,1E!1");
        x.open(0, 1, 0);
        x.open(0, 0, 0);
        x.say(0, 0, 0, 5);
        int[] far = {-1, Integer.MIN_VALUE, Integer.MAX_VALUE};
        for (int number : far) {
            Due.bad("hear(" + number + ", 1)", () -> x.hear(number, 1));
            Due.bad("hear(1, " + number + ")", () -> x.hear(1, number));
        }
        Due.bad("hear(4, 1)", () -> x.hear(4, 1));
        Due.bad("hear(1, 12)", () -> x.hear(1, 12));
        Due.bad("hear(2, 12) of a dead process", () -> x.hear(2, 12));
        Due.notYours("another's end", () -> x.hear(0, 1));
        Due.notYours("another's empty end", () -> x.hear(1, 0));
        Due.notYours("a closed end", () -> x.hear(0, 4));
        Due.notYours("a dead process", () -> x.hear(2, 1));
        x.say(0, 2, 0, 5);
        x.say(0, 0, 6, 3);
        Due.notYours("an end that a message carries", () -> x.hear(0, 3));
        Due.is("count(6)", x.count(6), 0);
        Due.is("hear", x.hear(1, 1), 5);
        Due.none("an empty queue", () -> x.hear(0, 0));
    }

    private static void emptyBeforeForbidden() {
        ExchangeSystem x = Due.system(1, "1a!0");
        x.open(0, 0, 0);
        Due.none("hear at side 0", () -> x.hear(0, 0));
        Due.none("hear at side 1", () -> x.hear(0, 1));
        x.say(0, 0, 0, 0);
        x.hear(0, 1);
        Due.none("hear in state 0", () -> x.hear(0, 1));
    }

    private static void forbiddenStays() {
        ExchangeSystem x = Due.system(2, "1a!2,1A?2,2b!3,3b?1");
        x.open(0, 1, 0);
        x.block(1, 1);
        x.say(0, 0, 0, 1);
        x.say(1, 1, 3, 0);
        x.say(0, 0, 1, 2);
        String before = Due.picture(x);
        Due.notYours("A in state 3", () -> x.hear(0, 0));
        Due.notYours("a in state 2", () -> x.hear(1, 1));
        Due.same("what it was", Due.picture(x), before);
        Due.is("its owner", x.ofBlock(0, 0), 4);
        Due.is("choose", x.choose(0, 1), 0);
        bothSayTheSame();
    }

    /** A rule for the letter is not enough: its arrow must be the other side's. */
    private static void bothSayTheSame() {
        ExchangeSystem x = Due.system(1, "1a!2,2b!2,1b?3,3a?3");
        x.open(0, 0, 0);
        x.say(0, 0, 0, 1);
        x.say(0, 1, 1, 2);
        Due.notYours("b in state 2 is for side 0 to say", () -> x.hear(0, 0));
        Due.notYours("a in state 3 is for side 1 to say", () -> x.hear(0, 1));
        Due.is("messages", x.count(4), 2);
    }

    private static void carriedIsOwned() {
        ExchangeSystem x = Due.system(3, "1A!1,1E!1,1a?1");
        x.open(0, 1, 0);
        x.open(0, 2, 0);
        x.block(0, 2);
        x.write(0, 0, 1, -5);
        x.say(0, 0, 3, 0);
        x.say(0, 0, 6, 2);
        Due.is("hear", x.hear(1, 1), 48);
        Due.is("owner", x.ofBlock(0, 0), 1);
        Due.is("cells", x.ofBlock(0, 1), 2);
        Due.is("read", x.read(1, 0, 1), -5);
        Due.is("hear", x.hear(1, 1), 98);
        Due.is("owner", x.ofEnd(2, 0), 1);
        x.say(1, 2, 3, 0);
        Due.is("say at the end that was heard", x.ofEnd(3, 2), 1);
        x.say(2, 3, 0, 6);
        Due.is("hear at the end that was heard", x.hear(1, 2), 6);
    }

    private static void theOtherEndMayBeClosed() {
        ExchangeSystem x = Due.system(2, "1a!2,2b!3");
        x.open(0, 1, 0);
        x.say(0, 0, 0, 1);
        x.say(0, 0, 1, 2);
        x.close(0, 0);
        Due.is("messages", x.ofEnd(1, 2), 2);
        Due.is("hear", x.hear(1, 1), 1);
        Due.is("hear", x.hear(1, 1), 18);
        Due.is("state", x.ofEnd(1, 1), 3);
        Due.none("hear", () -> x.hear(1, 1));
    }
}
