/** Promises 15 and 16. */
public final class OfTest {
    private static final int[] FAR = {-1, Integer.MIN_VALUE, Integer.MAX_VALUE};

    public static void main(String[] args) {
        ofBlock();
        ofEnd();
        wrongNumbers();
        Due.end();
    }

    private static void ofBlock() {
        ExchangeSystem x = Due.system(4, "1A!1");
        for (int p = 0; p < 4; p++) {
            x.block(p, p + 5);
            Due.is("owner", x.ofBlock(p, 0), p);
            Due.is("cells", x.ofBlock(p, 1), p + 5);
        }
        x.open(2, 0, 0);
        x.say(2, 0, 3, 2);
        Due.is("owner of a carried one", x.ofBlock(2, 0), 4);
        Due.is("cells of a carried one", x.ofBlock(2, 1), 7);
        x.hear(0, 1);
        Due.is("owner of a heard one", x.ofBlock(2, 0), 0);
        x.free(0, 2);
        Due.is("owner of a free one", x.ofBlock(2, 0), -1);
        Due.is("cells of a free one", x.ofBlock(2, 1), 0);
    }

    private static void ofEnd() {
        ExchangeSystem x = Due.system(4, "1a!6,6E!0,1b?3");
        x.open(3, 1, 0);
        x.open(3, 2, 0);
        Due.is("owner", x.ofEnd(0, 0), 3);
        Due.is("owner", x.ofEnd(1, 0), 1);
        x.say(2, 3, 1, 0);
        x.say(3, 0, 0, 0);
        x.say(3, 0, 6, 2);
        Due.is("owner of a carried one", x.ofEnd(2, 0), 4);
        Due.is("state of a carried one", x.ofEnd(2, 1), 1);
        Due.is("messages for a carried one", x.ofEnd(2, 2), 1);
        Due.is("state 0 of an open one", x.ofEnd(0, 1), 0);
        Due.is("owner in state 0", x.ofEnd(0, 0), 3);
        Due.is("state", x.ofEnd(1, 1), 1);
        Due.is("messages", x.ofEnd(1, 2), 2);
        x.hear(1, 1);
        Due.is("state", x.ofEnd(1, 1), 6);
        Due.is("messages", x.ofEnd(1, 2), 1);
        x.close(1, 1);
        for (int e = 1; e < 3; e++) {
            Due.is("owner of a closed one", x.ofEnd(e, 0), -1);
            Due.is("state of a closed one", x.ofEnd(e, 1), 0);
            Due.is("messages for a closed one", x.ofEnd(e, 2), 0);
        }
    }

    private static void wrongNumbers() {
        ExchangeSystem x = new ExchangeSystem();
        for (int number : FAR) {
            Due.bad("ofBlock(" + number + ", 0)", () -> x.ofBlock(number, 0));
            Due.bad("ofBlock(0, " + number + ")", () -> x.ofBlock(0, number));
            Due.bad("ofEnd(" + number + ", 0)", () -> x.ofEnd(number, 0));
            Due.bad("ofEnd(0, " + number + ")", () -> x.ofEnd(0, number));
        }
        Due.bad("ofBlock(12, 0)", () -> x.ofBlock(12, 0));
        Due.bad("ofBlock(0, 2)", () -> x.ofBlock(0, 2));
        Due.bad("ofEnd(12, 0)", () -> x.ofEnd(12, 0));
        Due.bad("ofEnd(0, 3)", () -> x.ofEnd(0, 3));
        Due.is("ofBlock(11, 1)", x.ofBlock(11, 1), 0);
        Due.is("ofEnd(11, 2)", x.ofEnd(11, 2), 0);
    }
}
