/** Promises 6 to 9. */
public final class BlockTest {
    private static final int[] WRONG_PROCESSES = {-1, 4, Integer.MIN_VALUE, Integer.MAX_VALUE};
    private static final int[] WRONG_BLOCKS = {-1, 12, Integer.MIN_VALUE, Integer.MAX_VALUE};

    public static void main(String[] args) {
        sizes();
        leastFreeFirst();
        atMost48Cells();
        atMostTwelveBlocks();
        freeing();
        cells();
        newCellsAreZero();
        wrongOwners();
        Due.end();
    }

    private static void sizes() {
        ExchangeSystem x = new ExchangeSystem();
        int[] wrong = {0, 9, -1, Integer.MIN_VALUE, Integer.MAX_VALUE};
        for (int n : wrong) {
            Due.bad("block(0, " + n + ")", () -> x.block(0, n));
            Due.bad("block(1, " + n + ") of a dead process", () -> x.block(1, n));
        }
        for (int p : WRONG_PROCESSES) {
            Due.bad("block(" + p + ", 1)", () -> x.block(p, 1));
        }
        Due.notYours("block(1, 1)", () -> x.block(1, 1));
        for (int n = 1; n <= 8; n++) {
            Due.is("block", x.block(0, n), n - 1);
            Due.is("its cells", x.ofBlock(n - 1, 1), n);
            Due.is("its owner", x.ofBlock(n - 1, 0), 0);
        }
    }

    private static void leastFreeFirst() {
        ExchangeSystem x = new ExchangeSystem();
        for (int b = 0; b < 6; b++) {
            x.block(0, 1);
        }
        x.free(0, 4);
        x.free(0, 2);
        Due.is("block", x.block(0, 2), 2);
        Due.is("block", x.block(0, 3), 4);
        Due.is("block", x.block(0, 4), 6);
    }

    private static void atMost48Cells() {
        ExchangeSystem x = Due.system(2, "1a!1");
        for (int b = 0; b < 5; b++) {
            x.block(b & 1, 8);
        }
        x.block(0, 7);
        Due.noRoom("two more than 47", () -> x.block(0, 2));
        Due.is("count(2)", x.count(2), 47);
        Due.is("one more than 47", x.block(1, 1), 6);
        Due.noRoom("one more than 48", () -> x.block(1, 1));
        Due.notYours("block of a dead process, without room", () -> x.block(2, 1));
        Due.bad("a bad size, without room", () -> x.block(1, 9));
        x.free(0, 0);
        Due.is("eight more than 40", x.block(0, 8), 0);
    }

    private static void atMostTwelveBlocks() {
        ExchangeSystem x = new ExchangeSystem();
        for (int b = 0; b < 12; b++) {
            Due.is("block", x.block(0, 1), b);
        }
        Due.noRoom("the thirteenth", () -> x.block(0, 1));
        Due.is("count(1)", x.count(1), 12);
        x.free(0, 11);
        Due.is("the last again", x.block(0, 1), 11);
    }

    private static void freeing() {
        ExchangeSystem x = Due.system(2, "1A!1");
        x.block(0, 3);
        x.block(1, 4);
        for (int p : WRONG_PROCESSES) {
            Due.bad("free(" + p + ", 0)", () -> x.free(p, 0));
        }
        for (int b : WRONG_BLOCKS) {
            Due.bad("free(0, " + b + ")", () -> x.free(0, b));
            Due.bad("free(3, " + b + ")", () -> x.free(3, b));
        }
        Due.notYours("free another's", () -> x.free(0, 1));
        Due.notYours("free by a dead process", () -> x.free(2, 0));
        Due.notYours("free a free one", () -> x.free(0, 2));
        x.free(0, 0);
        Due.is("owner", x.ofBlock(0, 0), -1);
        Due.is("cells", x.ofBlock(0, 1), 0);
        Due.is("count(1)", x.count(1), 1);
        Due.is("count(2)", x.count(2), 4);
        Due.notYours("free twice", () -> x.free(0, 0));
        x.open(1, 0, 0);
        x.say(1, 0, 3, 1);
        Due.notYours("free a sent one", () -> x.free(1, 1));
        x.hear(0, 1);
        Due.notYours("free one that was given away", () -> x.free(1, 1));
        x.free(0, 1);
        Due.is("count(1)", x.count(1), 0);
    }

    private static void cells() {
        ExchangeSystem x = new ExchangeSystem();
        x.block(0, 8);
        x.block(0, 3);
        int[] values = {1, -1, Integer.MIN_VALUE, Integer.MAX_VALUE, 255, 256, 65536, 7};
        for (int i = 0; i < 8; i++) {
            x.write(0, 0, i, values[i]);
        }
        for (int i = 0; i < 3; i++) {
            x.write(0, 1, i, i + 100);
        }
        for (int i = 0; i < 8; i++) {
            Due.is("read(0, 0, " + i + ")", x.read(0, 0, i), values[i]);
        }
        for (int i = 0; i < 3; i++) {
            Due.is("read(0, 1, " + i + ")", x.read(0, 1, i), i + 100);
        }
        int[] wrong = {-1, 3, 7, 8, Integer.MIN_VALUE, Integer.MAX_VALUE};
        for (int i : wrong) {
            Due.none("read(0, 1, " + i + ")", () -> x.read(0, 1, i));
            Due.none("write(0, 1, " + i + ", 5)", () -> x.write(0, 1, i, 5));
            Due.notYours("read(0, 2, " + i + ")", () -> x.read(0, 2, i));
            Due.notYours("write(1, 1, " + i + ", 5)", () -> x.write(1, 1, i, 5));
            Due.bad("read(0, 12, " + i + ")", () -> x.read(0, 12, i));
            Due.bad("write(4, 1, " + i + ", 5)", () -> x.write(4, 1, i, 5));
        }
        x.write(0, 0, 0, 12);
        Due.is("read behind a second write", x.read(0, 0, 0), 12);
    }

    private static void newCellsAreZero() {
        ExchangeSystem x = new ExchangeSystem();
        x.block(0, 8);
        for (int i = 0; i < 8; i++) {
            Due.is("a new cell", x.read(0, 0, i), 0);
            x.write(0, 0, i, 9);
        }
        x.free(0, 0);
        Due.notYours("read a freed block", () -> x.read(0, 0, 0));
        x.block(0, 4);
        for (int i = 0; i < 4; i++) {
            Due.is("a cell of a block taken again", x.read(0, 0, i), 0);
        }
        x.free(0, 0);
        x.block(0, 8);
        for (int i = 0; i < 8; i++) {
            Due.is("a cell of a block taken thrice", x.read(0, 0, i), 0);
        }
        x.write(0, 0, 7, 5);
        x.kill(0);
        x.start();
        x.block(0, 8);
        Due.is("a cell of a killed process's block", x.read(0, 0, 7), 0);
    }

    private static void wrongOwners() {
        ExchangeSystem x = Due.system(2, "1A!1");
        x.block(0, 2);
        x.write(0, 0, 0, 3);
        for (int p : WRONG_PROCESSES) {
            Due.bad("read(" + p + ", 0, 0)", () -> x.read(p, 0, 0));
            Due.bad("write(" + p + ", 0, 0, 1)", () -> x.write(p, 0, 0, 1));
        }
        for (int b : WRONG_BLOCKS) {
            Due.bad("read(0, " + b + ", 0)", () -> x.read(0, b, 0));
            Due.bad("write(3, " + b + ", 0, 1)", () -> x.write(3, b, 0, 1));
        }
        for (int p = 1; p < 4; p++) {
            int process = p;
            Due.notYours("read by " + p, () -> x.read(process, 0, 0));
            Due.notYours("write by " + p, () -> x.write(process, 0, 0, 1));
        }
        x.open(0, 1, 0);
        x.say(0, 0, 3, 0);
        Due.notYours("read a sent block", () -> x.read(0, 0, 0));
        Due.notYours("write a sent block", () -> x.write(0, 0, 0, 1));
        Due.notYours("read a block before it is heard", () -> x.read(1, 0, 0));
        x.hear(1, 1);
        Due.notYours("read a block given away", () -> x.read(0, 0, 0));
        Due.is("read", x.read(1, 0, 0), 3);
        x.write(1, 0, 0, 4);
        Due.is("read", x.read(1, 0, 0), 4);
    }
}
