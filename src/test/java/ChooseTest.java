/** Promise 13. */
public final class ChooseTest {
    public static void main(String[] args) {
        leastOfTheMask();
        whatIsPassedOver();
        wrongNumbers();
        Due.end();
    }

    private static void leastOfTheMask() {
        ExchangeSystem x = Due.system(1, "1a!1,1b?1");
        for (int c = 0; c < 6; c++) {
            x.open(0, 0, 0);
        }
        Due.none("no messages", () -> x.choose(0, 4095));
        for (int e = 11; e >= 0; e--) {
            x.say(0, e ^ 1, e & 1 ^ 1, 0);
            Due.is("choose(0, 4095)", x.choose(0, 4095), e);
        }
        for (int e = 0; e < 12; e++) {
            Due.is("the mask of one", x.choose(0, 1 << e), e);
            Due.is("the mask from one on", x.choose(0, 4095 << e & 4095), e);
        }
        Due.none("the empty mask", () -> x.choose(0, 0));
        Due.is("messages", x.count(4), 12);
        x.hear(0, 0);
        Due.is("choose(0, 4095)", x.choose(0, 4095), 1);
        Due.none("choose(0, 1)", () -> x.choose(0, 1));
    }

    private static void whatIsPassedOver() {
        ExchangeSystem x = Due.system(2, "1a!1,1E!1");
        x.open(0, 1, 0);
        x.open(0, 0, 0);
        x.open(0, 0, 0);
        x.say(0, 0, 0, 0);
        x.say(0, 2, 0, 0);
        x.say(0, 4, 0, 0);
        Due.is("not another's", x.choose(0, 4095), 3);
        Due.is("one's own", x.choose(1, 4095), 1);
        x.say(0, 0, 6, 3);
        Due.is("not a carried one", x.choose(0, 4095), 5);
        Due.is("not a carried one", x.choose(1, 4095), 1);
        x.close(0, 5);
        Due.none("not a closed one", () -> x.choose(0, 4095));
        Due.none("not another's", () -> x.choose(0, 2));
    }

    private static void wrongNumbers() {
        ExchangeSystem x = Due.system(1, "1a!1");
        int[] far = {-1, 4096, Integer.MIN_VALUE, Integer.MAX_VALUE};
        for (int mask : far) {
            Due.bad("choose(0, " + mask + ")", () -> x.choose(0, mask));
            Due.bad("choose(1, " + mask + ") of a dead process", () -> x.choose(1, mask));
            Due.bad("choose(" + mask + ", 1)", () -> x.choose(mask, 1));
        }
        Due.bad("choose(4, 1)", () -> x.choose(4, 1));
        Due.notYours("a dead process", () -> x.choose(1, 4095));
        Due.notYours("a dead process", () -> x.choose(3, 0));
    }
}
