/** Promise 2. */
public final class TypeTest {
    public static void main(String[] args) {
        bytesAreTakenHighestFirst();
        zeroBytesAreLeftOut();
        badCharacters();
        textHasRoomFor36();
        whatThrowsAddsNothing();
        Due.end();
    }

    private static void bytesAreTakenHighestFirst() {
        ExchangeSystem x = new ExchangeSystem();
        Due.is("type 1a!2,2b?", x.type(Due.eight("1a!2,2b?")), 8);
        Due.is("type 1", x.type(Due.eight("1")), 9);
        Due.is("contract(0)", x.contract(0), 2);
        x.open(0, 0, 0);
        x.say(0, 0, 0, 0);
        Due.is("state behind 1a!", x.ofEnd(0, 1), 2);
    }

    private static void zeroBytesAreLeftOut() {
        ExchangeSystem x = new ExchangeSystem();
        Due.is("type(0)", x.type(0), 0);
        Due.is("type 1 and a apart", x.type(0x3100000061000000L), 2);
        Due.is("type ! and 1 apart", x.type(0x0000210000000031L), 4);
        Due.is("type(0) behind four", x.type(0), 4);
        Due.is("contract(0)", x.contract(0), 1);
        Due.is("type(0) behind a contract", x.type(0), 0);
    }

    private static void badCharacters() {
        ExchangeSystem x = new ExchangeSystem();
        int[] wrong = {1, 10, 31, 32, 127, 128, 160, 255};
        for (int character : wrong) {
            for (int shift = 0; shift < 64; shift += 8) {
                long eight = 0x6161616161616161L & ~(255L << shift) | (long) character << shift;
                Due.bad("type(" + eight + ")", () -> x.type(eight));
            }
        }
        Due.bad("type(-1)", () -> x.type(-1));
        Due.bad("type(Long.MIN_VALUE)", () -> x.type(Long.MIN_VALUE));
        Due.is("type(0) behind bad ones", x.type(0), 0);
        Due.is("type(33)", x.type(33), 1);
        Due.is("type(126)", x.type(126), 2);
        Due.is("type(126 << 56)", x.type(126L << 56), 3);
    }

    private static void textHasRoomFor36() {
        ExchangeSystem x = new ExchangeSystem();
        Due.type(x, "12345678123456781234567812345678123");
        Due.noRoom("two behind 35", () -> x.type(Due.eight("12")));
        Due.is("type(0) behind 35", x.type(0), 35);
        Due.is("one behind 35", x.type(Due.eight("1")), 36);
        Due.is("type(0) behind 36", x.type(0), 36);
        Due.noRoom("one behind 36", () -> x.type(Due.eight("1")));
        Due.bad("a bad one behind 36", () -> x.type(Due.eight("1 ")));
        Due.bad("contract of 36", () -> x.contract(0));
        Due.is("type behind contract", x.type(Due.eight("1")), 1);
    }

    private static void whatThrowsAddsNothing() {
        ExchangeSystem x = new ExchangeSystem();
        Due.type(x, "1a!1,");
        Due.bad("1b!1 with a bad one", () -> x.type(Due.eight("1b!1\u0001")));
        Due.is("type 1c!1", x.type(Due.eight("1c!1")), 9);
        Due.is("contract(0)", x.contract(0), 2);
        x.open(0, 0, 0);
        Due.notYours("say b", () -> x.say(0, 0, 1, 0));
        x.say(0, 0, 2, 0);
    }
}
