import java.util.ArrayList;
import java.util.HashSet;
import java.util.List;
import java.util.NoSuchElementException;
import java.util.Set;

/**
 * The document told a second time, with Java's library and without a thought of room, for
 * ModelRunsTest to hold the class against.
 */
final class Model {
    private static final String RULE = "[1-6][a-cA-CE][!?][0-6]";

    static final class Message {
        final int letter;
        final int value;

        Message(int letter, int value) {
            this.letter = letter;
            this.value = value;
        }
    }

    static final class Block {
        int owner;
        final int[] cells;

        Block(int owner, int cells) {
            this.owner = owner;
            this.cells = new int[cells];
        }
    }

    static final class End {
        int owner;
        int state = 1;
        final String contract;
        final List<Message> queue = new ArrayList<>();

        End(int owner, String contract) {
            this.owner = owner;
            this.contract = contract;
        }
    }

    private final StringBuilder text = new StringBuilder();
    final String[] contracts = new String[4];
    final boolean[] alive = {true, false, false, false};
    /** Null is free. */
    final Block[] blocks = new Block[12];
    /** Null is CLOSED. */
    final End[] ends = new End[12];
    private int said;
    private int heard;
    private int dropped;
    private int killed;

    int type(long eight) {
        StringBuilder added = new StringBuilder();
        for (int i = 7; i >= 0; i--) {
            char character = (char) (eight >> 8 * i & 255);
            if (character != 0) {
                range(character, 33, 126);
                added.append(character);
            }
        }
        if (text.length() + added.length() > 36) {
            throw new UnsupportedOperationException();
        }
        return text.append(added).length();
    }

    int contract(int k) {
        range(k, 0, 3);
        String read = text.toString();
        text.setLength(0);
        if (!read.matches(RULE + "(," + RULE + ")*")) {
            throw new IllegalArgumentException();
        }
        Set<String> starts = new HashSet<>();
        for (String rule : read.split(",")) {
            if (!starts.add(rule.substring(0, 2))) {
                throw new IllegalArgumentException();
            }
        }
        contracts[k] = read;
        return starts.size();
    }

    int start() {
        for (int p = 0; p < 4; p++) {
            if (!alive[p]) {
                alive[p] = true;
                return p;
            }
        }
        throw new UnsupportedOperationException();
    }

    int kill(int p) {
        process(p);
        living(p);
        alive[p] = false;
        killed++;
        int gone = 0;
        for (int b = 0; b < 12; b++) {
            if (blocks[b] != null && blocks[b].owner == p) {
                blocks[b] = null;
                gone++;
            }
        }
        for (int e = 0; e < 12; e++) {
            if (ends[e] != null && ends[e].owner == p) {
                gone += closing(e);
            }
        }
        return gone;
    }

    int block(int p, int n) {
        process(p);
        range(n, 1, 8);
        living(p);
        for (int b = 0; b < 12; b++) {
            if (blocks[b] == null && count(2) + n <= 48) {
                blocks[b] = new Block(p, n);
                return b;
            }
        }
        throw new UnsupportedOperationException();
    }

    void free(int p, int b) {
        owned(p, b);
        blocks[b] = null;
    }

    int read(int p, int b, int i) {
        int[] cells = owned(p, b).cells;
        there(i >= 0 && i < cells.length);
        return cells[i];
    }

    void write(int p, int b, int i, int v) {
        int[] cells = owned(p, b).cells;
        there(i >= 0 && i < cells.length);
        cells[i] = v;
    }

    int open(int p, int q, int k) {
        process(p);
        process(q);
        range(k, 0, 3);
        living(p);
        living(q);
        there(contracts[k] != null);
        for (int c = 0; c < 6; c++) {
            if (ends[2 * c] == null && ends[2 * c + 1] == null) {
                ends[2 * c] = new End(p, contracts[k]);
                ends[2 * c + 1] = new End(q, contracts[k]);
                return c;
            }
        }
        throw new UnsupportedOperationException();
    }

    void say(int p, int e, int letter, int value) {
        process(p);
        range(e, 0, 11);
        range(letter, 0, 6);
        living(p);
        yours(ends[e] != null && ends[e].owner == p);
        int next = behind(ends[e], letter, "!?".charAt(e % 2));
        yours(next >= 0);
        boolean isBlock = letter >= 3 && letter <= 5;
        boolean isEnd = letter == 6;
        yours(!isBlock || value >= 0 && value < 12 && blocks[value] != null && blocks[value].owner == p);
        yours(!isEnd || value >= 0 && value < 12 && ends[value] != null && ends[value].owner == p);
        int other = e % 2 == 0 ? e + 1 : e - 1;
        yours(!isEnd || value != e && value != other);
        there(ends[other] != null);
        yours(ends[other].queue.size() < 3);
        ends[e].state = next;
        hand(letter, value, 4);
        ends[other].queue.add(new Message(letter, value));
        said++;
    }

    int hear(int p, int e) {
        process(p);
        range(e, 0, 11);
        living(p);
        yours(ends[e] != null && ends[e].owner == p);
        there(!ends[e].queue.isEmpty());
        Message first = ends[e].queue.get(0);
        int next = behind(ends[e], first.letter, "?!".charAt(e % 2));
        yours(next >= 0);
        ends[e].state = next;
        ends[e].queue.remove(0);
        hand(first.letter, first.value, p);
        heard++;
        return 16 * first.letter + (first.letter < 3 ? Math.floorMod(first.value, 16) : first.value);
    }

    int choose(int p, int mask) {
        process(p);
        range(mask, 0, 4095);
        living(p);
        for (int e = 0; e < 12; e++) {
            boolean in = (mask & 1 << e) != 0;
            if (in && ends[e] != null && ends[e].owner == p && !ends[e].queue.isEmpty()) {
                return e;
            }
        }
        throw new NoSuchElementException();
    }

    int close(int p, int e) {
        process(p);
        range(e, 0, 11);
        living(p);
        yours(ends[e] != null && ends[e].owner == p);
        return closing(e);
    }

    int ofBlock(int b, int what) {
        range(b, 0, 11);
        range(what, 0, 1);
        if (blocks[b] == null) {
            return what == 0 ? -1 : 0;
        }
        return what == 0 ? blocks[b].owner : blocks[b].cells.length;
    }

    int ofEnd(int e, int what) {
        range(e, 0, 11);
        range(what, 0, 2);
        if (ends[e] == null) {
            return what == 0 ? -1 : 0;
        }
        int[] answers = {ends[e].owner, ends[e].state, ends[e].queue.size()};
        return answers[what];
    }

    int count(int what) {
        int[] answers = new int[10];
        for (boolean living : alive) {
            answers[0] += living ? 1 : 0;
        }
        for (Block block : blocks) {
            answers[1] += block == null ? 0 : 1;
            answers[2] += block == null ? 0 : block.cells.length;
        }
        for (End end : ends) {
            answers[3] += end == null ? 0 : 1;
            answers[4] += end == null ? 0 : end.queue.size();
        }
        answers[5] = said;
        answers[6] = heard;
        answers[7] = dropped;
        answers[8] = killed;
        for (String contract : contracts) {
            answers[9] += contract == null ? 0 : 1;
        }
        return what >= 0 && what < 10 ? answers[what] : -1;
    }

    /** The STATE behind the RULE, -1 if there is none. */
    static int behind(End end, int letter, char arrow) {
        String start = "" + end.state + "abcABCE".charAt(letter) + arrow;
        for (String rule : end.contract.split(",")) {
            if (rule.startsWith(start)) {
                return rule.charAt(3) - '0';
            }
        }
        return -1;
    }

    private int closing(int e) {
        List<Message> queue = ends[e].queue;
        ends[e] = null;
        int gone = 1;
        for (Message message : queue) {
            dropped++;
            if (message.letter >= 3 && message.letter <= 5) {
                blocks[message.value] = null;
                gone++;
            } else if (message.letter == 6 && ends[message.value] != null) {
                gone += closing(message.value);
            }
        }
        return gone;
    }

    private void hand(int letter, int value, int owner) {
        if (letter == 6) {
            ends[value].owner = owner;
        } else if (letter >= 3) {
            blocks[value].owner = owner;
        }
    }

    private Block owned(int p, int b) {
        process(p);
        range(b, 0, 11);
        living(p);
        yours(blocks[b] != null && blocks[b].owner == p);
        return blocks[b];
    }

    private void process(int p) {
        range(p, 0, 3);
    }

    private void living(int p) {
        yours(alive[p]);
    }

    private static void range(int number, int least, int most) {
        if (number < least || number > most) {
            throw new IllegalArgumentException();
        }
    }

    private static void yours(boolean holds) {
        if (!holds) {
            throw new IllegalStateException();
        }
    }

    private static void there(boolean holds) {
        if (!holds) {
            throw new NoSuchElementException();
        }
    }
}
