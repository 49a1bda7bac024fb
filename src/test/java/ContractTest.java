/** Promise 3, and the form of contracts under "Terms". */
public final class ContractTest {
    public static void main(String[] args) {
        contractsThatAre();
        contractsThatAreNot();
        statesAndLettersAndArrows();
        aBadNumberLeavesTheText();
        aTextThatIsNoneLeavesTheContract();
        openChannelsKeepTheirs();
        everyNumberHasItsOwn();
        Due.end();
    }

    private static void contractsThatAre() {
        ExchangeSystem x = new ExchangeSystem();
        String[] texts = {
            "1a!1", "6E?0", "1a!2,1b!2", "1a!1,2a!1", "1a!1,1A?1", "3C?3,3c?3,3b!3",
            "1a!1,1b!1,1c!1,1A!1,1B!1,1C!1,1E!1", "6a?0,5b?0,4c?0,3A?0,2B?0,1C?0,1E?0",
        };
        for (String text : texts) {
            Due.is("contract " + text, Due.contract(x, 0, text), (text.length() + 1) / 5);
        }
    }

    private static void contractsThatAreNot() {
        ExchangeSystem x = new ExchangeSystem();
        String[] texts = {
            "", ",", "1", "1a", "1a!", "a!1", "1!1", "1a1", "1a!1,", ",1a!1", "1a!1,,2a!1", "1a!12a!1",
            "1a!1;2a!1", "1a!1,2a!", "1a!11", "0a!1", "7a!1", "/a!1", "9a!1", "1a!7", "1a!/", "1a!a",
            "1d!1", "1D!1", "1e!1", "1F!1", "1`!1", "1@!1", "1a#1", "1a>1", "1a.1", "1a!1,1a!2",
            "1a!1,1a?1", "2E?1,1a!1,2E!0", "1a!1.2a!1", "1a!1,1b!1,1c!1,1A!1,1B!1,1C!1,1E!1,",
            "1a!1,1b!1,1c!1,1A!1,1B!1,1C!1,1E!1,1", "1a!1,1b!1,1c!1,1A!1,1B!1,1C!1,1C!1",
        };
        for (String text : texts) {
            Due.type(x, text);
            Due.bad("contract '" + text + "'", () -> x.contract(0));
            Due.is("the text's length behind '" + text + "'", x.type(0), 0);
        }
        Due.is("count(9)", x.count(9), 0);
        Due.none("open", () -> x.open(0, 0, 0));
    }

    private static void statesAndLettersAndArrows() {
        String letters = "abcABCE";
        for (int letter = 0; letter < 7; letter++) {
            for (int side = 0; side < 2; side++) {
                ExchangeSystem x = Due.system(1, "1" + letters.charAt(letter) + "!?".charAt(side) + "5");
                x.open(0, 0, 0);
                x.open(0, 0, 0);
                x.block(0, 1);
                int value = letter == 6 ? 2 : 0;
                for (int other = 0; other < 7; other++) {
                    int said = other;
                    if (other != letter) {
                        Due.notYours("say " + other, () -> x.say(0, 0, said, value));
                        Due.notYours("say " + other, () -> x.say(0, 1, said, value));
                    }
                }
                int wrongEnd = 1 - side;
                int said = letter;
                Due.notYours("say at the wrong side", () -> x.say(0, wrongEnd, said, value));
                x.say(0, side, letter, value);
                Due.is("the sayer's state", x.ofEnd(side, 1), 5);
                Due.is("the hearer's state", x.ofEnd(1 - side, 1), 1);
                Due.is("hear", x.hear(0, 1 - side), 16 * letter + value);
                Due.is("the hearer's state", x.ofEnd(1 - side, 1), 5);
            }
        }
    }

    private static void aBadNumberLeavesTheText() {
        ExchangeSystem x = new ExchangeSystem();
        Due.type(x, "1a!1");
        int[] wrong = {-1, 4, Integer.MIN_VALUE, Integer.MAX_VALUE};
        for (int k : wrong) {
            Due.bad("contract(" + k + ")", () -> x.contract(k));
            Due.is("type(0)", x.type(0), 4);
        }
        Due.is("contract(3)", x.contract(3), 1);
        Due.is("type(0)", x.type(0), 0);
        Due.type(x, "x");
        Due.bad("contract(4) of no contract", () -> x.contract(4));
        Due.is("type(0)", x.type(0), 1);
    }

    private static void aTextThatIsNoneLeavesTheContract() {
        ExchangeSystem x = Due.system(1, "1a!1");
        Due.type(x, "1b!1,1c!");
        Due.bad("contract(0)", () -> x.contract(0));
        Due.bad("contract(0) of the empty text", () -> x.contract(0));
        Due.is("count(9)", x.count(9), 1);
        x.open(0, 0, 0);
        x.say(0, 0, 0, 0);
        Due.notYours("say b", () -> x.say(0, 0, 1, 0));
    }

    private static void openChannelsKeepTheirs() {
        ExchangeSystem x = Due.system(1, "1a!1,1b!1");
        x.open(0, 0, 0);
        Due.is("contract(0)", Due.contract(x, 0, "1c!1"), 1);
        Due.is("count(9)", x.count(9), 1);
        x.open(0, 0, 0);
        x.say(0, 0, 1, 0);
        Due.is("hear by the old one", x.hear(0, 1), 16);
        Due.notYours("c by the old one", () -> x.say(0, 0, 2, 0));
        x.say(0, 2, 2, 0);
        Due.is("hear by the new one", x.hear(0, 3), 32);
        Due.notYours("a by the new one", () -> x.say(0, 2, 0, 0));
        Due.notYours("b by the new one", () -> x.say(0, 2, 1, 0));
        x.close(0, 0);
        x.close(0, 1);
        Due.is("open the first again", x.open(0, 0, 0), 0);
        Due.notYours("a by the new one", () -> x.say(0, 0, 0, 0));
    }

    private static void everyNumberHasItsOwn() {
        ExchangeSystem x = new ExchangeSystem();
        String letters = "abcE";
        for (int k = 0; k < 4; k++) {
            Due.contract(x, k, "1" + letters.charAt(k) + "!1");
            Due.is("count(9)", x.count(9), k + 1);
        }
        for (int k = 0; k < 4; k++) {
            x.open(0, 0, k);
        }
        for (int k = 0; k < 3; k++) {
            x.say(0, 2 * k, k, 0);
        }
        x.say(0, 6, 6, 0);
    }
}
