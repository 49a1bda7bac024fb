/** Promise 2. */
public final class TypeTest {
    public static void main(String[] args) {
        Due.sentence("Adds the eight bytes of the number, highest first, to the text.", TypeTest::highestFirst);
        Due.sentence("Those that are 0 left out.", TypeTest::zerosAreLeftOut);
        Due.sentence("All eight 0: none is added.", TypeTest::onlyZeros);
        Due.sentence("One not 33 .. 126: bad (too small).", TypeTest::charactersTooSmall);
        Due.sentence("One not 33 .. 126: bad (too large).", TypeTest::charactersTooLarge);
        Due.sentence("33 and 126 are not bad.", TypeTest::leastAndLargestCharacter);
        Due.sentence("More than 36 in all: no room.", TypeTest::moreThan36);
        Due.sentence("36 in all are not more than 36.", TypeTest::exactly36);
        Due.sentence("Zeros are not among the 36.", TypeTest::zerosTakeNoRoom);
        Due.sentence("Bad comes before no room.", TypeTest::badBeforeNoRoom);
        Due.sentence("One bad: then none is added.", TypeTest::badAddsNone);
        Due.sentence("No room: then none is added.", TypeTest::noRoomAddsNone);
        Due.sentence("Answers its length.", TypeTest::answersTheLength);
        Due.end();
    }

    private static void highestFirst() {
        ExchangeSystem x = new ExchangeSystem();
        Due.is("type 1a!2,2b?", x.type(Due.eight("1a!2,2b?")), 8);
        Due.is("type 1", x.type(Due.eight("1")), 9);
        Due.is("contract(0)", x.contract(0), 2);
        x.open(0, 0, 0);
        x.say(0, 0, 0, 0);
        Due.is("state behind 1a!", x.ofEnd(0, 1), 2);
    }

    private static void zerosAreLeftOut() {
        ExchangeSystem x = new ExchangeSystem();
        Due.is("type 1 and a apart", x.type(0x3100000061000000L), 2);
        Due.is("type ! and 1 apart", x.type(0x0000210000000031L), 4);
        Due.is("contract(0)", x.contract(0), 1);
        for (int shift = 0; shift < 64; shift += 8) {
            Due.is("one byte at " + shift, x.type(65L << shift), shift / 8 + 1);
        }
    }

    private static void onlyZeros() {
        ExchangeSystem x = new ExchangeSystem();
        Due.is("type(0)", x.type(0), 0);
        Due.type(x, "1a!1");
        Due.is("type(0) behind four", x.type(0), 4);
        Due.is("contract(0)", x.contract(0), 1);
        Due.is("type(0) behind a contract", x.type(0), 0);
    }

    private static void badInEveryPlace(int[] characters) {
        ExchangeSystem x = new ExchangeSystem();
        for (int character : characters) {
            for (int shift = 0; shift < 64; shift += 8) {
                long among = 0x6161616161616161L & ~(255L << shift) | (long) character << shift;
                long alone = (long) character << shift;
                Due.bad("type(" + among + ")", () -> x.type(among));
                Due.bad("type(" + alone + ")", () -> x.type(alone));
            }
        }
        Due.is("type(0) behind bad ones", x.type(0), 0);
    }

    private static void charactersTooSmall() {
        badInEveryPlace(new int[] {1, 9, 10, 13, 31, 32});
    }

    private static void charactersTooLarge() {
        badInEveryPlace(new int[] {127, 128, 129, 160, 176, 254, 255});
    }

    private static void leastAndLargestCharacter() {
        ExchangeSystem x = new ExchangeSystem();
        for (int shift = 0; shift < 64; shift += 8) {
            Due.is("33 at " + shift, x.type(33L << shift), shift / 4 + 1);
            Due.is("126 at " + shift, x.type(126L << shift), shift / 4 + 2);
        }
    }

    private static ExchangeSystem typed(int length) {
        ExchangeSystem x = new ExchangeSystem();
        Due.type(x, "1a!1,1b!1,1c!1,1A!1,1B!1,1C!1,1E!1,1".substring(0, length));
        return x;
    }

    private static void moreThan36() {
        ExchangeSystem full = typed(36);
        Due.noRoom("one behind 36", () -> full.type(65));
        Due.noRoom("eight behind 36", () -> full.type(Due.eight("12345678")));
        ExchangeSystem almost = typed(35);
        Due.noRoom("two behind 35", () -> almost.type(Due.eight("12")));
        ExchangeSystem x = typed(29);
        Due.noRoom("eight behind 29", () -> x.type(Due.eight("12345678")));
    }

    private static void exactly36() {
        Due.is("one behind 35", typed(35).type(65), 36);
        Due.is("two behind 34", typed(34).type(Due.eight("12")), 36);
        Due.is("eight behind 28", typed(28).type(Due.eight("12345678")), 36);
        Due.is("none behind 36", typed(36).type(0), 36);
    }

    private static void zerosTakeNoRoom() {
        Due.is("one among zeros behind 35", typed(35).type(0x0000004100000000L), 36);
        Due.is("one before zeros behind 35", typed(35).type(0x4100000000000000L), 36);
        Due.is("two among zeros behind 34", typed(34).type(0x4100000000000041L), 36);
    }

    private static void badBeforeNoRoom() {
        ExchangeSystem x = typed(36);
        Due.bad("one bad behind 36", () -> x.type(32));
        Due.bad("a bad one last behind 36", () -> x.type(Due.eight("1234567 ")));
        Due.bad("a bad one first behind 36", () -> x.type(-1));
    }

    private static void badAddsNone() {
        ExchangeSystem x = new ExchangeSystem();
        Due.type(x, "1a!1,");
        Due.bad("a bad one last", () -> x.type(Due.eight("1b!1\u0001")));
        Due.bad("a bad one first", () -> x.type(Due.eight("\u007f1b!1")));
        Due.is("type(0)", x.type(0), 5);
        Due.is("type 1c!1", x.type(Due.eight("1c!1")), 9);
        Due.is("contract(0)", x.contract(0), 2);
        x.open(0, 0, 0);
        Due.notYours("say b", () -> x.say(0, 0, 1, 0));
        x.say(0, 0, 2, 0);
    }

    private static void noRoomAddsNone() {
        ExchangeSystem x = typed(33);
        Due.noRoom("four behind 33", () -> x.type(Due.eight("0,1a")));
        Due.is("type(0)", x.type(0), 33);
        Due.is("type 6", x.type(Due.eight("6")), 34);
        Due.is("contract(0)", x.contract(0), 7);
        Due.openOwn(x, 2);
        x.say(0, 0, 6, 2);
        Due.is("state behind 1E!", x.ofEnd(0, 1), 6);
    }

    private static void answersTheLength() {
        ExchangeSystem x = new ExchangeSystem();
        for (int length = 1; length <= 36; length++) {
            Due.is("type", x.type(33 + length), length);
        }
        Due.bad("contract(0)", () -> x.contract(0));
        Due.is("type behind contract", x.type(Due.eight("12")), 2);
    }
}
