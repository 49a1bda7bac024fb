import java.util.Arrays;
import java.util.NoSuchElementException;

/**
 * A little system of processes that share nothing: blocks and channel ends have one owner at a
 * time, and messages carry them from owner to owner as far as a channel's contract allows.
 */
public final class ExchangeSystem {
    private static final int PROCESSES = 4;
    private static final int CONTRACTS = 4;
    private static final int BLOCKS = 12;
    private static final int CHANNELS = 6;
    private static final int ENDS = 2 * CHANNELS;
    private static final int CELLS_OF_BLOCK = 8;
    private static final int CELLS_IN_ALL = 48;
    private static final int TEXT_ROOM = 36;
    /** The document's limit, though a text of 36 characters holds seven rules at most. */
    private static final int RULES_ROOM = 9;
    private static final int QUEUE_ROOM = 3;
    private static final int MASKS = 1 << ENDS;

    private static final int NOBODY = -1;
    private static final int MESSAGE = PROCESSES;

    private static final int FIRST_STATE = 1;
    private static final int LAST_STATE = 6;
    private static final int FORBIDDEN = -1;

    /** A letter's number, and a side's, is its place in these texts. */
    private static final String LETTERS = "abcABCE";
    private static final String ARROWS = "!?";
    private static final int FIRST_BLOCK_LETTER = 3;
    private static final int END_LETTER = 6;

    /** "1a!2" and the comma behind it. */
    private static final int RULE_LENGTH = 4;
    private static final int RULE_STEP = 5;

    private final char[] text;
    private int textLength;
    private final Contract draft;
    private final Contract[] contracts;
    private final boolean[] alive;
    private final Block[] blocks;
    private final Contract[] contractOfChannel;
    private final End[] ends;
    private int said;
    private int heard;
    private int dropped;
    private int killed;

    public ExchangeSystem() {
        text = new char[TEXT_ROOM];
        draft = new Contract();
        contracts = new Contract[CONTRACTS];
        for (int k = 0; k < CONTRACTS; k++) {
            contracts[k] = new Contract();
        }
        alive = new boolean[PROCESSES];
        alive[0] = true;
        blocks = new Block[BLOCKS];
        for (int b = 0; b < BLOCKS; b++) {
            blocks[b] = new Block();
        }
        contractOfChannel = new Contract[CHANNELS];
        for (int c = 0; c < CHANNELS; c++) {
            contractOfChannel[c] = new Contract();
        }
        ends = new End[ENDS];
        for (int e = 0; e < ENDS; e++) {
            ends[e] = new End();
        }
    }

    public int type(long eight) throws IllegalArgumentException, UnsupportedOperationException {
        int added = 0;
        for (int shift = 56; shift >= 0; shift -= 8) {
            int character = byteAt(eight, shift);
            if (character != 0) {
                needWithin(character, 33, 126);
                added++;
            }
        }
        if (textLength + added > TEXT_ROOM) {
            throw new UnsupportedOperationException("the text is too long");
        }
        for (int shift = 56; shift >= 0; shift -= 8) {
            int character = byteAt(eight, shift);
            if (character != 0) {
                text[textLength] = (char) character;
                textLength++;
            }
        }
        return textLength;
    }

    public int contract(int k) throws IllegalArgumentException {
        needBelow(k, CONTRACTS);
        boolean isContract = draftFromText();
        // The text is used up even when it is refused.
        textLength = 0;
        if (!isContract) {
            throw new IllegalArgumentException("the text is no contract");
        }
        contracts[k].become(draft);
        return draft.size;
    }

    public int start() throws UnsupportedOperationException {
        for (int p = 0; p < PROCESSES; p++) {
            if (!alive[p]) {
                alive[p] = true;
                return p;
            }
        }
        throw new UnsupportedOperationException("every process is alive");
    }

    public int kill(int p) throws IllegalArgumentException, IllegalStateException {
        needBelow(p, PROCESSES);
        needAlive(p);
        alive[p] = false;
        killed++;
        int gone = 0;
        for (int b = 0; b < BLOCKS; b++) {
            if (blocks[b].owner == p) {
                blocks[b].giveBack();
                gone++;
            }
        }
        for (int e = 0; e < ENDS; e++) {
            if (ends[e].owner == p) {
                gone += closeEnd(e, 0);
            }
        }
        return gone;
    }

    public int block(int p, int n)
            throws IllegalArgumentException, IllegalStateException, UnsupportedOperationException {
        needBelow(p, PROCESSES);
        needWithin(n, 1, CELLS_OF_BLOCK);
        needAlive(p);
        int b = leastFreeBlock();
        if (b == BLOCKS || cellsInUse() + n > CELLS_IN_ALL) {
            throw new UnsupportedOperationException("the exchange heap is full");
        }
        blocks[b].handOut(p, n);
        return b;
    }

    public void free(int p, int b) throws IllegalArgumentException, IllegalStateException {
        needOwnBlock(p, b);
        blocks[b].giveBack();
    }

    public int read(int p, int b, int i)
            throws IllegalArgumentException, IllegalStateException, NoSuchElementException {
        needOwnBlock(p, b);
        needCell(b, i);
        return blocks[b].cells[i];
    }

    public void write(int p, int b, int i, int v)
            throws IllegalArgumentException, IllegalStateException, NoSuchElementException {
        needOwnBlock(p, b);
        needCell(b, i);
        blocks[b].cells[i] = v;
    }

    public int open(int p, int q, int k)
            throws IllegalArgumentException, IllegalStateException, NoSuchElementException,
            UnsupportedOperationException {
        needBelow(p, PROCESSES);
        needBelow(q, PROCESSES);
        needBelow(k, CONTRACTS);
        needAlive(p);
        needAlive(q);
        if (contracts[k].isNone()) {
            throw new NoSuchElementException("there is no such contract");
        }
        int c = leastFreeChannel();
        if (c == CHANNELS) {
            throw new UnsupportedOperationException("no channel is free");
        }
        // A copy, so that a later contract k does not reach the open channel.
        contractOfChannel[c].become(contracts[k]);
        ends[2 * c].begin(p);
        ends[2 * c + 1].begin(q);
        return c;
    }

    public void say(int p, int e, int letter, int value)
            throws IllegalArgumentException, IllegalStateException, NoSuchElementException {
        needBelow(letter, LETTERS.length());
        needOwnEnd(p, e);
        End speaker = ends[e];
        int next = contractOfChannel[e / 2].stateBehind(speaker.state, letter, sideOf(e));
        needAllowed(next);
        needOwnLoad(p, e, letter, value);
        End listener = ends[otherEnd(e)];
        if (!listener.isOpen()) {
            throw new NoSuchElementException("the other end is closed");
        }
        if (listener.waiting >= QUEUE_ROOM) {
            throw new IllegalStateException("the queue is full");
        }
        speaker.state = next;
        giveLoad(letter, value, MESSAGE);
        listener.addLast(letter, value);
        said++;
    }

    public int hear(int p, int e)
            throws IllegalArgumentException, IllegalStateException, NoSuchElementException {
        needOwnEnd(p, e);
        End listener = ends[e];
        if (listener.waiting == 0) {
            throw new NoSuchElementException("the queue is empty");
        }
        int letter = listener.letters[0];
        int value = listener.values[0];
        int next = contractOfChannel[e / 2].stateBehind(listener.state, letter, sideOf(otherEnd(e)));
        needAllowed(next);
        listener.state = next;
        listener.removeFirst();
        giveLoad(letter, value, p);
        heard++;
        // The number of a block or an end has no more than four bits either.
        return 16 * letter + (value & 15);
    }

    public int choose(int p, int mask)
            throws IllegalArgumentException, IllegalStateException, NoSuchElementException {
        needBelow(p, PROCESSES);
        needBelow(mask, MASKS);
        needAlive(p);
        for (int e = 0; e < ENDS; e++) {
            boolean asked = (mask >> e & 1) == 1;
            if (asked && ends[e].owner == p && ends[e].waiting > 0) {
                return e;
            }
        }
        throw new NoSuchElementException("no end of the mask has a message");
    }

    public int close(int p, int e) throws IllegalArgumentException, IllegalStateException {
        needOwnEnd(p, e);
        return closeEnd(e, 0);
    }

    public int ofBlock(int b, int what) throws IllegalArgumentException {
        needBelow(b, BLOCKS);
        needBelow(what, 2);
        return what == 0 ? blocks[b].owner : blocks[b].size;
    }

    public int ofEnd(int e, int what) throws IllegalArgumentException {
        needBelow(e, ENDS);
        needBelow(what, 3);
        if (what == 0) {
            return ends[e].owner;
        }
        return what == 1 ? ends[e].state : ends[e].waiting;
    }

    public int count(int what) {
        switch (what) {
            case 0:
                return processesAlive();
            case 1:
                return blocksInUse();
            case 2:
                return cellsInUse();
            case 3:
                return endsOpen();
            case 4:
                return messagesWaiting();
            case 5:
                return said;
            case 6:
                return heard;
            case 7:
                return dropped;
            case 8:
                return killed;
            case 9:
                return contractsMade();
            default:
                return -1;
        }
    }

    private static int byteAt(long eight, int shift) {
        return (int) (eight >>> shift) & 255;
    }

    private static void needWithin(int number, int least, int most) {
        if (number < least || number > most) {
            throw new IllegalArgumentException("a number is out of range");
        }
    }

    private static void needBelow(int number, int bound) {
        needWithin(number, 0, bound - 1);
    }

    private void needAlive(int p) {
        if (!alive[p]) {
            throw new IllegalStateException("the process is not alive");
        }
    }

    private void needOwnBlock(int p, int b) {
        needBelow(p, PROCESSES);
        needBelow(b, BLOCKS);
        needAlive(p);
        if (blocks[b].owner != p) {
            throw new IllegalStateException("the process does not own the block");
        }
    }

    private void needCell(int b, int i) {
        if (i < 0 || i >= blocks[b].size) {
            throw new NoSuchElementException("the block has no such cell");
        }
    }

    private void needOwnEnd(int p, int e) {
        needBelow(p, PROCESSES);
        needBelow(e, ENDS);
        needAlive(p);
        if (ends[e].owner != p) {
            throw new IllegalStateException("the process does not own the end");
        }
    }

    private static void needAllowed(int next) {
        if (next == FORBIDDEN) {
            throw new IllegalStateException("the contract forbids it");
        }
    }

    private void needOwnLoad(int p, int e, int letter, int value) {
        if (carriesBlock(letter) && !ownsBlock(p, value)) {
            throw new IllegalStateException("the process does not own the block to send");
        }
        if (carriesEnd(letter) && !ownsEndOfOtherChannel(p, value, e)) {
            throw new IllegalStateException("the process may not send this end");
        }
    }

    private boolean ownsBlock(int p, int b) {
        return b >= 0 && b < BLOCKS && blocks[b].owner == p;
    }

    private boolean ownsEndOfOtherChannel(int p, int sent, int e) {
        return sent >= 0 && sent < ENDS && sent / 2 != e / 2 && ends[sent].owner == p;
    }

    private static boolean carriesBlock(int letter) {
        return letter >= FIRST_BLOCK_LETTER && letter < END_LETTER;
    }

    private static boolean carriesEnd(int letter) {
        return letter == END_LETTER;
    }

    private void giveLoad(int letter, int number, int owner) {
        if (carriesBlock(letter)) {
            blocks[number].owner = owner;
        } else if (carriesEnd(letter)) {
            ends[number].owner = owner;
        }
    }

    private static int sideOf(int e) {
        return e & 1;
    }

    private static int otherEnd(int e) {
        return e ^ 1;
    }

    /**
     * Answers how many blocks and ends went. An end is closed before its queue is emptied and never
     * twice, so the depth stays below the number of ends.
     */
    private int closeEnd(int e, int depth) {
        End end = ends[e];
        if (!end.isOpen() || depth >= ENDS) {
            return 0;
        }
        end.owner = NOBODY;
        int gone = 1;
        for (int m = 0; m < end.waiting; m++) {
            gone += dropMessage(end.letters[m], end.values[m], depth);
        }
        end.waiting = 0;
        end.state = 0;
        return gone;
    }

    private int dropMessage(int letter, int number, int depth) {
        dropped++;
        if (carriesBlock(letter)) {
            blocks[number].giveBack();
            return 1;
        }
        return carriesEnd(letter) ? closeEnd(number, depth + 1) : 0;
    }

    private boolean draftFromText() {
        draft.clear();
        // The last rule has no comma behind it; this also refuses the empty text.
        if (textLength % RULE_STEP != RULE_LENGTH) {
            return false;
        }
        for (int at = 0; at + RULE_LENGTH <= textLength; at += RULE_STEP) {
            boolean apart = at == 0 || text[at - 1] == ',';
            if (!apart || !draftRuleAt(at)) {
                return false;
            }
        }
        return true;
    }

    private boolean draftRuleAt(int at) {
        int state = text[at] - '0';
        int letter = LETTERS.indexOf(text[at + 1]);
        int side = ARROWS.indexOf(text[at + 2]);
        int next = text[at + 3] - '0';
        boolean wellFormed = state >= FIRST_STATE && state <= LAST_STATE
                && letter >= 0 && side >= 0
                && next >= 0 && next <= LAST_STATE;
        return wellFormed && draft.addRule(state, letter, side, next);
    }

    private int leastFreeBlock() {
        int b = 0;
        while (b < BLOCKS && !blocks[b].isFree()) {
            b++;
        }
        return b;
    }

    private int leastFreeChannel() {
        int c = 0;
        while (c < CHANNELS && (ends[2 * c].isOpen() || ends[2 * c + 1].isOpen())) {
            c++;
        }
        return c;
    }

    private int processesAlive() {
        int sum = 0;
        for (int p = 0; p < PROCESSES; p++) {
            sum += alive[p] ? 1 : 0;
        }
        return sum;
    }

    private int blocksInUse() {
        int sum = 0;
        for (int b = 0; b < BLOCKS; b++) {
            sum += blocks[b].isFree() ? 0 : 1;
        }
        return sum;
    }

    private int cellsInUse() {
        int sum = 0;
        for (int b = 0; b < BLOCKS; b++) {
            sum += blocks[b].size;
        }
        return sum;
    }

    private int endsOpen() {
        int sum = 0;
        for (int e = 0; e < ENDS; e++) {
            sum += ends[e].isOpen() ? 1 : 0;
        }
        return sum;
    }

    private int messagesWaiting() {
        int sum = 0;
        for (int e = 0; e < ENDS; e++) {
            sum += ends[e].waiting;
        }
        return sum;
    }

    private int contractsMade() {
        int sum = 0;
        for (int k = 0; k < CONTRACTS; k++) {
            sum += contracts[k].isNone() ? 0 : 1;
        }
        return sum;
    }

    /** A row of rules; an empty row is no contract. */
    private static final class Contract {
        private final int[] states = new int[RULES_ROOM];
        private final int[] letters = new int[RULES_ROOM];
        private final int[] sides = new int[RULES_ROOM];
        private final int[] nexts = new int[RULES_ROOM];
        private int size;

        boolean isNone() {
            return size == 0;
        }

        void clear() {
            size = 0;
        }

        boolean addRule(int state, int letter, int side, int next) {
            if (size >= RULES_ROOM || ruleFor(state, letter) < size) {
                return false;
            }
            states[size] = state;
            letters[size] = letter;
            sides[size] = side;
            nexts[size] = next;
            size++;
            return true;
        }

        void become(Contract other) {
            size = other.size;
            for (int r = 0; r < size; r++) {
                states[r] = other.states[r];
                letters[r] = other.letters[r];
                sides[r] = other.sides[r];
                nexts[r] = other.nexts[r];
            }
        }

        int stateBehind(int state, int letter, int side) {
            int r = ruleFor(state, letter);
            return r < size && sides[r] == side ? nexts[r] : FORBIDDEN;
        }

        /** The size if there is none. */
        private int ruleFor(int state, int letter) {
            int r = 0;
            while (r < size && (states[r] != state || letters[r] != letter)) {
                r++;
            }
            return r;
        }
    }

    /** A block of the exchange heap; a free one has no cells. */
    private static final class Block {
        private final int[] cells = new int[CELLS_OF_BLOCK];
        private int owner = NOBODY;
        private int size;

        boolean isFree() {
            return owner == NOBODY;
        }

        void handOut(int process, int n) {
            owner = process;
            size = n;
            Arrays.fill(cells, 0);
        }

        void giveBack() {
            owner = NOBODY;
            size = 0;
        }
    }

    /** An end of a channel, with the queue of what was said to it. */
    private static final class End {
        private final int[] letters = new int[QUEUE_ROOM];
        private final int[] values = new int[QUEUE_ROOM];
        private int owner = NOBODY;
        private int state;
        private int waiting;

        boolean isOpen() {
            return owner != NOBODY;
        }

        void begin(int process) {
            owner = process;
            state = FIRST_STATE;
        }

        void addLast(int letter, int value) {
            if (waiting < QUEUE_ROOM) {
                letters[waiting] = letter;
                values[waiting] = value;
                waiting++;
            }
        }

        void removeFirst() {
            for (int m = 1; m < waiting; m++) {
                letters[m - 1] = letters[m];
                values[m - 1] = values[m];
            }
            if (waiting > 0) {
                waiting--;
            }
        }
    }
}
