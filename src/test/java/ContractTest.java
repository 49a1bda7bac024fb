/** Promise 3, and what "Terms" says of CONTRACTS. */
public final class ContractTest {
    private static final String SEVEN = "1a!1,1b!1,1c!1,1A!1,1B!1,1C!1,1E!1";

    public static void main(String[] args) {
        theForm();
        Due.sentence("The text becomes CONTRACT k (0 .. 3).", ContractTest::everyNumberHasItsOwn);
        Due.sentence("k too small or too large: bad.", ContractTest::wrongNumbers);
        Due.sentence("The text is empty then.", ContractTest::theTextIsEmptyThen);
        Due.sentence("Empty then also if it is no contract.", ContractTest::emptyAlsoIfNoContract);
        Due.sentence("But not if k is bad.", ContractTest::aBadNumberLeavesTheText);
        Due.sentence("What throws changes nothing: CONTRACT k stays.", ContractTest::noContractLeavesTheOld);
        Due.sentence("For CHANNELS that are opened from now on.", ContractTest::channelsFromNowOn);
        Due.sentence("Those that are open keep theirs.", ContractTest::openChannelsKeepTheirs);
        Due.sentence("Answers how many RULES it has.", ContractTest::answersTheRules);
        Due.end();
    }

    private static void theForm() {
        Due.sentence("A text of at most 36 characters.", ContractTest::theLongestTexts);
        Due.sentence("One or more: none is no contract.", ContractTest::noRule);
        Due.sentence("One or more of STATE LETTER ARROW STATE.", ContractTest::oneToSevenRules);
        Due.sentence("STATE LETTER ARROW STATE: not less, not more, in this order.", ContractTest::brokenRules);
        Due.sentence("A comma between.", ContractTest::commas);
        Due.sentence("No other character between.", ContractTest::otherSeparators);
        Due.sentence("STATE: a digit 1 .. 6.", ContractTest::states);
        Due.sentence("Behind the ARROW also 0.", ContractTest::statesBehind);
        Due.sentence("LETTER: a .. c, A .. C or E.", ContractTest::letters);
        Due.sentence("ARROW: ! or ?", ContractTest::arrows);
        Due.sentence("! is said by the end of SIDE 0, ? by that of SIDE 1.", ContractTest::sidesOfArrows);
        Due.sentence("From one STATE no LETTER may be in two RULES.", ContractTest::noLetterTwice);
        Due.sentence("From two STATES it may.", ContractTest::oneLetterFromTwoStates);
        Due.sentence("At most 9 RULES: all seven that a text can hold.", ContractTest::allSevenHold);
    }

    private static void are(String... texts) {
        ExchangeSystem x = new ExchangeSystem();
        for (String text : texts) {
            Due.is("contract '" + text + "'", Due.contract(x, 0, text), (text.length() + 1) / 5);
        }
    }

    private static void areNot(String... texts) {
        ExchangeSystem x = new ExchangeSystem();
        for (String text : texts) {
            Due.type(x, text);
            Due.bad("contract '" + text + "'", () -> x.contract(0));
        }
        Due.is("count(9)", x.count(9), 0);
        Due.none("open", () -> x.open(0, 0, 0));
    }

    /** Each character that can be typed, in one place of a text that is a contract otherwise. */
    private static void onlyThese(String allowed, String before, String behind) {
        ExchangeSystem x = new ExchangeSystem();
        for (char character = 33; character <= 126; character++) {
            String text = before + character + behind;
            Due.type(x, text);
            if (allowed.indexOf(character) >= 0) {
                Due.is("contract '" + text + "'", x.contract(0), (text.length() + 1) / 5);
            } else {
                Due.bad("contract '" + text + "'", () -> x.contract(0));
            }
        }
    }

    private static void theLongestTexts() {
        are(SEVEN);
        areNot(SEVEN + ",", SEVEN + ",1", SEVEN + "11", SEVEN + ",,", "," + SEVEN, "1" + SEVEN);
    }

    private static void noRule() {
        areNot("");
    }

    private static void oneToSevenRules() {
        for (int rules = 1; rules <= 7; rules++) {
            are(SEVEN.substring(0, 5 * rules - 1));
        }
        are("1a!1", "6E?0", "6a?0,5b?0,4c?0,3A?0,2B?0,1C?0,1E?0");
    }

    private static void brokenRules() {
        areNot("1", "1a", "1a!", "a!1", "1!1", "1a1", "1a!11", "11a!1", "1aa!1", "1a!!1", "a1!1", "1!a1", "1a1!");
        areNot("1a!1,2", "1a!1,2a", "1a!1,2a!", "1a!,2a!1", "1a!1,2a!11", "1a!11,2a!1", "1a,2a!11", "1a!1,2!a1");
    }

    private static void commas() {
        are("1a!1,2a!1", "1a!1,2a!1,3a!1");
        areNot(",", ",,,,", ",1a!1", "1a!1,", "1a!1,,2a!1", "1a!12a!1", ",1a!", "1a!1,2a!1,", "1a!1,2a!13a!1", "1,a,!,1");
    }

    private static void otherSeparators() {
        onlyThese(",", "1a!1", "2b?2");
        onlyThese(",", "1a!1,2b?2", "3b?2");
    }

    private static void states() {
        onlyThese("123456", "", "a!1");
        onlyThese("123456", "1b!1,", "a!1");
    }

    private static void statesBehind() {
        onlyThese("0123456", "1a!", "");
        onlyThese("0123456", "1a!", ",1b!1");
        for (int next = 0; next <= 6; next++) {
            ExchangeSystem x = Due.system(1, "1a!" + next);
            x.open(0, 0, 0);
            x.say(0, 0, 0, 0);
            Due.is("state behind 1a!" + next, x.ofEnd(0, 1), next);
        }
    }

    private static void letters() {
        onlyThese("abcABCE", "1", "!1");
        onlyThese("abcABCE", "1a!1,2", "!1");
    }

    private static void arrows() {
        onlyThese("!?", "1a", "1");
        onlyThese("!?", "1a!1,2a", "1");
    }

    private static void sidesOfArrows() {
        String letters = "abcABCE";
        for (int letter = 0; letter < 7; letter++) {
            for (int side = 0; side < 2; side++) {
                ExchangeSystem x = Due.system(1, "1" + letters.charAt(letter) + "!?".charAt(side) + "5");
                Due.openOwn(x, 2);
                x.block(0, 1);
                int value = letter == 6 ? 2 : 0;
                int wrongEnd = 1 - side;
                int said = letter;
                Due.notYours("say at the wrong side", () -> x.say(0, wrongEnd, said, value));
                x.say(0, side, letter, value);
                Due.is("hear", x.hear(0, 1 - side), 16 * letter + value);
            }
        }
    }

    private static void noLetterTwice() {
        areNot("1a!1,1a!1", "1a!1,1a!2", "1a!1,1a?1", "2E?1,1a!1,2E!0", "6C?0,6C?0", "3A!1,3B!1,3A?1");
        areNot("1a!1,1b!1,1c!1,1A!1,1B!1,1C!1,1C!1", "1a!1,1b!1,1c!1,1A!1,1B!1,1C!1,1a?2");
    }

    private static void oneLetterFromTwoStates() {
        are("1a!1,2a!1", "1a!1,2a!1,3a?1,4a!1,5a!1,6a!1", "1E?2,2E?1", "1a!1,1A!1", "1c!1,1C?1,1E?1");
    }

    private static void allSevenHold() {
        ExchangeSystem x = Due.system(1, SEVEN);
        Due.openOwn(x, 2);
        x.block(0, 1);
        for (int letter = 0; letter < 7; letter++) {
            int value = letter == 6 ? 2 : 0;
            x.say(0, 0, letter, value);
            Due.is("hear", x.hear(0, 1), 16 * letter + value);
        }
    }

    private static void everyNumberHasItsOwn() {
        ExchangeSystem x = new ExchangeSystem();
        String letters = "abcE";
        for (int k = 0; k < 4; k++) {
            Due.is("contract(" + k + ")", Due.contract(x, k, "1" + letters.charAt(k) + "!1"), 1);
            Due.is("count(9)", x.count(9), k + 1);
        }
        for (int k = 0; k < 4; k++) {
            x.open(0, 0, k);
        }
        for (int k = 0; k < 4; k++) {
            for (int letter = 0; letter < 3; letter++) {
                int end = 2 * k;
                int said = letter;
                if (letter == k) {
                    x.say(0, end, letter, 0);
                } else {
                    Due.notYours("say " + letter + " by contract " + k, () -> x.say(0, end, said, 0));
                }
            }
        }
        x.say(0, 6, 6, 0);
    }

    private static void wrongNumbers() {
        ExchangeSystem x = new ExchangeSystem();
        Due.type(x, "1a!1");
        for (int k : Due.outside(0, 3)) {
            Due.bad("contract(" + k + ")", () -> x.contract(k));
        }
        Due.is("count(9)", x.count(9), 0);
    }

    private static void theTextIsEmptyThen() {
        ExchangeSystem x = new ExchangeSystem();
        Due.contract(x, 3, "1a!1");
        Due.is("type(0)", x.type(0), 0);
        Due.bad("contract(0) of the empty text", () -> x.contract(0));
        Due.is("a new text", Due.contract(x, 0, "2b!2"), 1);
    }

    private static void emptyAlsoIfNoContract() {
        ExchangeSystem x = new ExchangeSystem();
        String[] texts = {"", "x", "1a!1,", "1a!1,1a!1", "0a!1", SEVEN + ",1"};
        for (String text : texts) {
            Due.type(x, text);
            Due.bad("contract(0) of '" + text + "'", () -> x.contract(0));
            Due.is("type(0) behind '" + text + "'", x.type(0), 0);
        }
        Due.is("a contract behind them", Due.contract(x, 0, "1a!1"), 1);
    }

    private static void aBadNumberLeavesTheText() {
        ExchangeSystem x = new ExchangeSystem();
        Due.type(x, "1a!1");
        for (int k : Due.outside(0, 3)) {
            Due.bad("contract(" + k + ")", () -> x.contract(k));
            Due.is("type(0)", x.type(0), 4);
        }
        Due.is("contract(3)", x.contract(3), 1);
        Due.type(x, "x");
        Due.bad("contract(4) of no contract", () -> x.contract(4));
        Due.is("type(0)", x.type(0), 1);
    }

    private static void noContractLeavesTheOld() {
        ExchangeSystem x = Due.system(1, "1a!2,2b!1");
        String[] texts = {"1b!1,1c!", "", "1b!1,1b!1", "1c!1,2c!1,3c!1,x"};
        for (String text : texts) {
            Due.type(x, text);
            Due.bad("contract(0) of '" + text + "'", () -> x.contract(0));
        }
        Due.is("count(9)", x.count(9), 1);
        x.open(0, 0, 0);
        Due.notYours("say b", () -> x.say(0, 0, 1, 0));
        Due.notYours("say c", () -> x.say(0, 0, 2, 0));
        x.say(0, 0, 0, 0);
        x.say(0, 0, 1, 0);
        Due.is("state", x.ofEnd(0, 1), 1);
    }

    private static void channelsFromNowOn() {
        ExchangeSystem x = Due.system(1, "1a!1,1b!1,1c!1");
        x.open(0, 0, 0);
        x.close(0, 0);
        x.close(0, 1);
        Due.is("contract(0)", Due.contract(x, 0, "1b!2"), 1);
        Due.is("count(9)", x.count(9), 1);
        Due.is("open", x.open(0, 0, 0), 0);
        Due.notYours("a by the new one", () -> x.say(0, 0, 0, 0));
        Due.notYours("c by the new one", () -> x.say(0, 0, 2, 0));
        x.say(0, 0, 1, 0);
        Due.is("state", x.ofEnd(0, 1), 2);
    }

    private static void openChannelsKeepTheirs() {
        ExchangeSystem x = Due.system(1, "1a!1,1b!1");
        x.open(0, 0, 0);
        x.say(0, 0, 0, 5);
        Due.contract(x, 0, "1c!1");
        x.open(0, 0, 0);
        x.say(0, 0, 1, 0);
        Due.is("hear by the old one", x.hear(0, 1), 5);
        Due.is("hear by the old one", x.hear(0, 1), 16);
        Due.notYours("c by the old one", () -> x.say(0, 0, 2, 0));
        x.say(0, 2, 2, 0);
        Due.is("hear by the new one", x.hear(0, 3), 32);
        Due.notYours("a by the new one", () -> x.say(0, 2, 0, 0));
        x.close(0, 0);
        x.close(0, 1);
        Due.is("open the first again", x.open(0, 0, 0), 0);
        Due.notYours("a by the new one", () -> x.say(0, 0, 0, 0));
    }

    private static void answersTheRules() {
        ExchangeSystem x = new ExchangeSystem();
        for (int rules = 7; rules >= 1; rules--) {
            Due.is("contract(1)", Due.contract(x, 1, SEVEN.substring(0, 5 * rules - 1)), rules);
        }
    }
}
