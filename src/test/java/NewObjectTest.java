/** Promise 1. */
public final class NewObjectTest {
    public static void main(String[] args) {
        ExchangeSystem x = new ExchangeSystem();
        Due.is("count(0)", x.count(0), 1);
        for (int what = 1; what <= 9; what++) {
            Due.is("count(" + what + ")", x.count(what), 0);
        }
        for (int b = 0; b < 12; b++) {
            Due.is("ofBlock(" + b + ", 0)", x.ofBlock(b, 0), -1);
            Due.is("ofBlock(" + b + ", 1)", x.ofBlock(b, 1), 0);
        }
        for (int e = 0; e < 12; e++) {
            Due.is("ofEnd(" + e + ", 0)", x.ofEnd(e, 0), -1);
            Due.is("ofEnd(" + e + ", 1)", x.ofEnd(e, 1), 0);
            Due.is("ofEnd(" + e + ", 2)", x.ofEnd(e, 2), 0);
        }
        for (int k = 0; k < 4; k++) {
            int number = k;
            Due.none("open with contract " + k, () -> x.open(0, 0, number));
        }
        for (int p = 1; p < 4; p++) {
            int process = p;
            Due.notYours("block for process " + p, () -> x.block(process, 1));
        }
        Due.is("type(0)", x.type(0), 0);
        Due.is("block(0, 1)", x.block(0, 1), 0);
        objectsAreApart();
        Due.end();
    }

    private static void objectsAreApart() {
        ExchangeSystem one = Due.system(2, "1a!1");
        ExchangeSystem other = new ExchangeSystem();
        one.block(0, 3);
        one.open(0, 1, 0);
        Due.same("another object", Due.picture(other), Due.picture(new ExchangeSystem()));
    }
}
