/** Promises 6 to 9, and what "Terms" says of BLOCKS. */
public final class BlockTest {
    public static void main(String[] args) {
        getting();
        freeing();
        reading();
        Due.end();
    }

    private static void getting() {
        Due.sentence("Process p gets the least free BLOCK.", BlockTest::leastFree);
        Due.sentence("With n cells (1 .. 8).", BlockTest::oneToEightCells);
        Due.sentence("n too small: bad.", BlockTest::tooFewCells);
        Due.sentence("n too large: bad.", BlockTest::tooManyCells);
        Due.sentence("block: p out of range is bad, p not ALIVE is not yours.", BlockTest::wrongGetters);
        Due.sentence("All 0.", BlockTest::allZero);
        Due.sentence("No free one: no room.", BlockTest::noFreeBlock);
        Due.sentence("Above 48 cells in all: no room.", BlockTest::above48Cells);
        Due.sentence("48 cells in all are not above 48.", BlockTest::exactly48Cells);
        Due.sentence("Cells in all: those of every process and of MESSAGES.", BlockTest::cellsOfAllOwners);
        Due.sentence("Answers its number.", BlockTest::answersItsNumber);
    }

    private static void freeing() {
        Due.sentence("Process p frees BLOCK b.", BlockTest::frees);
        Due.sentence("free: b is 0 .. 11.", BlockTest::leastAndLargestBlock);
        Due.sentence("free: a number out of range is bad.", BlockTest::freeOutOfRange);
        Due.sentence("free: a BLOCK that p doesn't OWN, or p not ALIVE, is not yours.", BlockTest::freeNotOwned);
        Due.sentence("A freed BLOCK's cells are gone.", BlockTest::cellsAreGone);
    }

    private static void reading() {
        Due.sentence("Cell i of BLOCK b, OWNED by p; it becomes v.", BlockTest::everyCell);
        Due.sentence("Cells are ints.", BlockTest::cellsAreInts);
        Due.sentence("read: no such cell: none.", BlockTest::readNoCell);
        Due.sentence("write: no such cell: none.", BlockTest::writeNoCell);
        Due.sentence("read: p or b out of range is bad.", BlockTest::readOutOfRange);
        Due.sentence("write: p or b out of range is bad.", BlockTest::writeOutOfRange);
        Due.sentence("read: not OWNED, or p not ALIVE, is not yours.", BlockTest::readNotOwned);
        Due.sentence("write: not OWNED, or p not ALIVE, is not yours.", BlockTest::writeNotOwned);
        Due.sentence("Cells go with their BLOCK from owner to owner.", BlockTest::cellsGoAlong);
    }

    private static void leastFree() {
        ExchangeSystem x = Due.system(2, "1A!1");
        Due.handOut(x, 0, 6, 1);
        x.free(0, 4);
        x.free(0, 2);
        x.free(0, 0);
        Due.is("block", x.block(1, 2), 0);
        Due.is("block", x.block(0, 3), 2);
        Due.is("block", x.block(1, 4), 4);
        Due.is("block", x.block(0, 5), 6);
        Due.is("owner", x.ofBlock(0, 0), 1);
        Due.is("owner", x.ofBlock(2, 0), 0);
        x.open(0, 0, 0);
        x.say(0, 0, 3, 1);
        Due.is("a carried one is not free", x.block(0, 1), 7);
    }

    private static void oneToEightCells() {
        ExchangeSystem x = new ExchangeSystem();
        for (int n = 1; n <= 8; n++) {
            int block = x.block(0, n);
            int cells = n;
            Due.is("its cells", x.ofBlock(block, 1), n);
            Due.is("its last cell", x.read(0, block, n - 1), 0);
            Due.none("behind its last cell", () -> x.read(0, block, cells));
        }
    }

    private static void tooFewCells() {
        ExchangeSystem x = new ExchangeSystem();
        int[] wrong = {0, -1, -8, Integer.MIN_VALUE};
        for (int n : wrong) {
            Due.bad("block(0, " + n + ")", () -> x.block(0, n));
            Due.bad("block(1, " + n + ") of a dead process", () -> x.block(1, n));
        }
        Due.is("count(1)", x.count(1), 0);
    }

    private static void tooManyCells() {
        ExchangeSystem x = new ExchangeSystem();
        int[] wrong = {9, 16, 48, 49, Integer.MAX_VALUE};
        for (int n : wrong) {
            Due.bad("block(0, " + n + ")", () -> x.block(0, n));
            Due.bad("block(1, " + n + ") of a dead process", () -> x.block(1, n));
        }
        Due.is("count(1)", x.count(1), 0);
    }

    private static void wrongGetters() {
        ExchangeSystem x = new ExchangeSystem();
        for (int p : Due.outside(0, 3)) {
            Due.bad("block(" + p + ", 1)", () -> x.block(p, 1));
        }
        for (int p = 1; p < 4; p++) {
            int process = p;
            Due.notYours("block(" + p + ", 1)", () -> x.block(process, 1));
        }
        x.kill(0);
        Due.notYours("block of a killed process", () -> x.block(0, 1));
    }

    private static void allZero() {
        ExchangeSystem x = new ExchangeSystem();
        x.block(0, 8);
        for (int i = 0; i < 8; i++) {
            Due.is("a new cell", x.read(0, 0, i), 0);
            x.write(0, 0, i, 9);
        }
        x.free(0, 0);
        x.block(0, 4);
        for (int i = 0; i < 4; i++) {
            Due.is("a cell of a block taken again", x.read(0, 0, i), 0);
        }
        x.free(0, 0);
        x.block(0, 8);
        for (int i = 0; i < 8; i++) {
            Due.is("a cell of a block taken thrice", x.read(0, 0, i), 0);
        }
    }

    private static void noFreeBlock() {
        ExchangeSystem x = new ExchangeSystem();
        Due.handOut(x, 0, 12, 1);
        Due.noRoom("the thirteenth", () -> x.block(0, 1));
        Due.is("count(1)", x.count(1), 12);
        x.free(0, 11);
        Due.is("the last again", x.block(0, 1), 11);
        Due.noRoom("the thirteenth again", () -> x.block(0, 8));
        x.free(0, 0);
        Due.is("the first again", x.block(0, 8), 0);
    }

    private static void above48Cells() {
        for (int n = 1; n <= 8; n++) {
            ExchangeSystem x = new ExchangeSystem();
            int cells = n;
            Due.handOut(x, 0, 5, 8);
            x.block(0, 9 - n);
            Due.noRoom(n + " more than " + x.count(2), () -> x.block(0, cells));
            Due.is("count(1)", x.count(1), 6);
        }
    }

    private static void exactly48Cells() {
        ExchangeSystem x = new ExchangeSystem();
        Due.handOut(x, 0, 5, 8);
        x.block(0, 7);
        Due.is("one more than 47", x.block(0, 1), 6);
        Due.is("count(2)", x.count(2), 48);
        Due.noRoom("one more than 48", () -> x.block(0, 1));
        x.free(0, 0);
        Due.is("eight more than 40", x.block(0, 8), 0);
        Due.is("count(2)", x.count(2), 48);
        ExchangeSystem twelve = new ExchangeSystem();
        for (int b = 0; b < 12; b++) {
            Due.is("twelve of four", twelve.block(0, 4), b);
        }
        Due.is("count(2)", twelve.count(2), 48);
        twelve.free(0, 0);
        Due.noRoom("five more than 44", () -> twelve.block(0, 5));
    }

    private static void cellsOfAllOwners() {
        ExchangeSystem x = Due.system(4, "1A!1");
        x.open(0, 0, 0);
        for (int p = 0; p < 4; p++) {
            x.block(p, 8);
            x.block(p, 3);
        }
        x.say(0, 0, 3, 0);
        Due.is("count(2)", x.count(2), 44);
        Due.noRoom("five more than 44", () -> x.block(3, 5));
        Due.is("four more than 44", x.block(3, 4), 8);
    }

    private static void answersItsNumber() {
        ExchangeSystem x = Due.system(4, "1A!1");
        for (int b = 0; b < 12; b++) {
            Due.is("block", x.block(b % 4, b % 4 + 1), b);
            Due.is("its owner", x.ofBlock(b, 0), b % 4);
            Due.is("its cells", x.ofBlock(b, 1), b % 4 + 1);
        }
    }

    private static void frees() {
        ExchangeSystem x = Due.system(2, "1A!1");
        x.block(0, 3);
        x.block(1, 4);
        x.block(0, 5);
        x.free(0, 0);
        Due.is("owner", x.ofBlock(0, 0), -1);
        Due.is("cells", x.ofBlock(0, 1), 0);
        Due.is("another's", x.ofBlock(1, 0), 1);
        Due.is("another", x.ofBlock(2, 1), 5);
        Due.is("count(1)", x.count(1), 2);
        Due.is("count(2)", x.count(2), 9);
        Due.is("it is no drop", x.count(7), 0);
    }

    private static void leastAndLargestBlock() {
        ExchangeSystem x = new ExchangeSystem();
        Due.handOut(x, 0, 12, 1);
        x.free(0, 11);
        x.free(0, 0);
        Due.is("count(1)", x.count(1), 10);
        Due.is("owner", x.ofBlock(11, 0), -1);
        Due.is("owner", x.ofBlock(0, 0), -1);
    }

    private static void freeOutOfRange() {
        ExchangeSystem x = new ExchangeSystem();
        x.block(0, 1);
        for (int p : Due.outside(0, 3)) {
            Due.bad("free(" + p + ", 0)", () -> x.free(p, 0));
        }
        for (int b : Due.outside(0, 11)) {
            Due.bad("free(0, " + b + ")", () -> x.free(0, b));
            Due.bad("free(3, " + b + ") of a dead process", () -> x.free(3, b));
        }
        Due.is("count(1)", x.count(1), 1);
    }

    /** Process 0 owns block 0, process 1 block 1; block 2 was freed, block 3 is carried. */
    private static ExchangeSystem mixedOwners() {
        ExchangeSystem x = Due.system(2, "1A!1");
        x.open(0, 1, 0);
        x.block(0, 2);
        x.block(1, 2);
        x.block(0, 2);
        x.block(0, 2);
        x.free(0, 2);
        x.say(0, 0, 3, 3);
        return x;
    }

    private static void freeNotOwned() {
        ExchangeSystem x = mixedOwners();
        Due.notYours("another's", () -> x.free(0, 1));
        Due.notYours("another's", () -> x.free(1, 0));
        Due.notYours("one that was freed", () -> x.free(0, 2));
        Due.notYours("a carried one, by its sender", () -> x.free(0, 3));
        Due.notYours("a carried one, by its hearer", () -> x.free(1, 3));
        Due.notYours("one that never was", () -> x.free(0, 11));
        Due.notYours("by a dead process", () -> x.free(2, 0));
        x.hear(1, 1);
        Due.notYours("one given away", () -> x.free(0, 3));
        Due.is("count(1)", x.count(1), 3);
        x.free(1, 3);
        Due.is("count(1)", x.count(1), 2);
    }

    private static void cellsAreGone() {
        ExchangeSystem x = new ExchangeSystem();
        x.block(0, 8);
        x.write(0, 0, 7, 5);
        x.free(0, 0);
        Due.is("count(2)", x.count(2), 0);
        Due.notYours("read a freed block", () -> x.read(0, 0, 7));
        Due.notYours("write a freed block", () -> x.write(0, 0, 7, 1));
        x.block(0, 8);
        Due.is("its cell, taken again", x.read(0, 0, 7), 0);
        x.write(0, 0, 7, 5);
        x.kill(0);
        x.start();
        x.block(0, 8);
        Due.is("its cell behind a kill", x.read(0, 0, 7), 0);
    }

    private static void everyCell() {
        ExchangeSystem x = new ExchangeSystem();
        Due.handOut(x, 0, 12, 4);
        for (int b = 0; b < 12; b++) {
            for (int i = 0; i < 4; i++) {
                x.write(0, b, i, 100 * b + i);
            }
        }
        for (int b = 0; b < 12; b++) {
            for (int i = 0; i < 4; i++) {
                Due.is("read(0, " + b + ", " + i + ")", x.read(0, b, i), 100 * b + i);
            }
        }
        x.write(0, 5, 0, 12);
        Due.is("read behind a second write", x.read(0, 5, 0), 12);
    }

    private static void cellsAreInts() {
        ExchangeSystem x = new ExchangeSystem();
        x.block(0, 8);
        int[] values = {Integer.MIN_VALUE, Integer.MAX_VALUE, -1, 127, 128, 65535, 65536, 0};
        for (int i = 0; i < 8; i++) {
            x.write(0, 0, i, values[i]);
        }
        for (int i = 0; i < 8; i++) {
            Due.is("read(0, 0, " + i + ")", x.read(0, 0, i), values[i]);
        }
    }

    private static void readNoCell() {
        ExchangeSystem x = new ExchangeSystem();
        for (int n = 1; n <= 8; n++) {
            int block = x.block(0, n);
            int[] wrong = {-1, n, 8, 9, 12, Integer.MIN_VALUE, Integer.MAX_VALUE};
            for (int i : wrong) {
                Due.none("read(0, " + block + ", " + i + ")", () -> x.read(0, block, i));
            }
        }
    }

    private static void writeNoCell() {
        ExchangeSystem x = new ExchangeSystem();
        for (int n = 1; n <= 8; n++) {
            int block = x.block(0, n);
            int[] wrong = {-1, n, 8, 9, 12, Integer.MIN_VALUE, Integer.MAX_VALUE};
            for (int i : wrong) {
                Due.none("write(0, " + block + ", " + i + ", 5)", () -> x.write(0, block, i, 5));
            }
            Due.is("its last cell", x.read(0, block, n - 1), 0);
        }
    }

    private static void readOutOfRange() {
        ExchangeSystem x = new ExchangeSystem();
        x.block(0, 1);
        for (int p : Due.outside(0, 3)) {
            Due.bad("read(" + p + ", 0, 0)", () -> x.read(p, 0, 0));
            Due.bad("read(" + p + ", 0, 8)", () -> x.read(p, 0, 8));
        }
        for (int b : Due.outside(0, 11)) {
            Due.bad("read(0, " + b + ", 0)", () -> x.read(0, b, 0));
            Due.bad("read(3, " + b + ", 8)", () -> x.read(3, b, 8));
        }
    }

    private static void writeOutOfRange() {
        ExchangeSystem x = new ExchangeSystem();
        x.block(0, 1);
        for (int p : Due.outside(0, 3)) {
            Due.bad("write(" + p + ", 0, 0, 1)", () -> x.write(p, 0, 0, 1));
            Due.bad("write(" + p + ", 0, 8, 1)", () -> x.write(p, 0, 8, 1));
        }
        for (int b : Due.outside(0, 11)) {
            Due.bad("write(0, " + b + ", 0, 1)", () -> x.write(0, b, 0, 1));
            Due.bad("write(3, " + b + ", 8, 1)", () -> x.write(3, b, 8, 1));
        }
        Due.is("the cell", x.read(0, 0, 0), 0);
    }

    private static void readNotOwned() {
        ExchangeSystem x = mixedOwners();
        int[] cells = {0, -1, 8};
        for (int i : cells) {
            Due.notYours("another's", () -> x.read(0, 1, i));
            Due.notYours("one that was freed", () -> x.read(0, 2, i));
            Due.notYours("a carried one, by its sender", () -> x.read(0, 3, i));
            Due.notYours("a carried one, by its hearer", () -> x.read(1, 3, i));
            Due.notYours("one that never was", () -> x.read(0, 4, i));
            Due.notYours("by a dead process", () -> x.read(2, 0, i));
        }
        x.hear(1, 1);
        Due.notYours("one given away", () -> x.read(0, 3, 0));
        Due.is("one that was heard", x.read(1, 3, 0), 0);
    }

    private static void writeNotOwned() {
        ExchangeSystem x = mixedOwners();
        int[] cells = {0, -1, 8};
        for (int i : cells) {
            Due.notYours("another's", () -> x.write(1, 0, i, 1));
            Due.notYours("one that was freed", () -> x.write(0, 2, i, 1));
            Due.notYours("a carried one, by its sender", () -> x.write(0, 3, i, 1));
            Due.notYours("a carried one, by its hearer", () -> x.write(1, 3, i, 1));
            Due.notYours("one that never was", () -> x.write(0, 4, i, 1));
            Due.notYours("by a dead process", () -> x.write(3, 0, i, 1));
        }
        x.hear(1, 1);
        Due.notYours("one given away", () -> x.write(0, 3, 0, 1));
        Due.is("nothing was written", x.read(1, 3, 0), 0);
        Due.is("nothing was written", x.read(0, 0, 0), 0);
    }

    private static void cellsGoAlong() {
        ExchangeSystem x = Due.system(2, "1A!1");
        x.open(0, 1, 0);
        x.block(0, 8);
        for (int i = 0; i < 8; i++) {
            x.write(0, 0, i, i - 4);
        }
        x.say(0, 0, 3, 0);
        x.hear(1, 1);
        for (int i = 0; i < 8; i++) {
            Due.is("read by the new owner", x.read(1, 0, i), i - 4);
        }
        x.write(1, 0, 7, 44);
        Due.is("written by the new owner", x.read(1, 0, 7), 44);
    }
}
