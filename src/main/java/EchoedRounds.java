/**
 * Nodes, some of which may lie, agree on 0 or 1: whatever a node says in a step is told to all by
 * echoes, taken only when it follows from what was said in the step before, and tosses help when
 * the nodes are divided.
 */
public final class EchoedRounds {
    public static final int NONE = -1;

    private static final int LEAST_NODES = 4;
    private static final int MOST_NODES = 7;
    private static final int STEPS = 3;
    private static final int SLOTS = 9;
    private static final int CELLS = SLOTS * MOST_NODES;
    private static final int VALUES = 4;
    private static final int FIRM = 2;
    private static final int TOSS_BITS = 7;

    private static final int SAYING = 0;
    private static final int ECHO = 1;
    private static final int READY = 2;
    private static final int KINDS = 3;

    private static final int MOST_PASSED = 100;
    // A node says once a slot, and sends one ECHO and one READY at most for each slot and speaker.
    private static final int MOST_SENT = SLOTS + 2 * CELLS;
    // Each act of settling uses up a message sent, a place in a row or a slot: some 210 in all.
    private static final int MOST_ACTS = 1000;

    private final Node[] nodes;

    public EchoedRounds(int nodes) {
        int count = Math.max(LEAST_NODES, Math.min(MOST_NODES, nodes));
        Rules rules = new Rules(count);
        this.nodes = new Node[count];
        for (int v = 0; v < count; v++) {
            this.nodes[v] = new Node(v, rules);
        }
    }

    public boolean corrupt(int v) {
        if (!isWellBehaved(v)) {
            return false;
        }
        nodes[v].wellBehaved = false;
        return true;
    }

    public boolean tosses(int v, int bits) {
        if (!isWellBehaved(v)) {
            return false;
        }
        nodes[v].tossBits = bits & TOSS_BITS;
        return true;
    }

    public boolean start(int v, int x) {
        if (!isWellBehaved(v) || nodes[v].currentSlot != NONE || !isPlain(x)) {
            return false;
        }
        nodes[v].enter(0, x);
        nodes[v].settle();
        return true;
    }

    public int pass(int v, int w, int n) {
        if (!isNode(v) || !isWellBehaved(w) || v == w || n < 1 || n > MOST_PASSED) {
            return NONE;
        }
        int passed = 0;
        while (passed < n && nodes[w].hearNextOf(v, nodes[v].log)) {
            nodes[w].settle();
            passed++;
        }
        return passed;
    }

    public boolean forge(int v, int w, int slot, int speaker, int what) {
        if (!isNode(v) || nodes[v].wellBehaved || !isWellBehaved(w)) {
            return false;
        }
        if (!isSlot(slot) || !isNode(speaker) || what < 0 || what >= KINDS * VALUES) {
            return false;
        }
        boolean counts = nodes[w].hear(v, codeOf(what / VALUES, slot, speaker, what % VALUES));
        nodes[w].settle();
        return counts;
    }

    public int sent(int v) {
        return isNode(v) ? nodes[v].log.size : NONE;
    }

    public int message(int v, int k) {
        return isNode(v) ? nodes[v].log.codeAt(k) : NONE;
    }

    public int waiting(int v, int w) {
        return isNode(v) && isNode(w) ? nodes[v].log.size - nodes[w].heardOf[v] : NONE;
    }

    public int votes(int v, int slot, int speaker, int x, boolean ready) {
        if (!isNode(v) || !isSlot(slot) || !isNode(speaker) || x < 0 || x >= VALUES) {
            return 0;
        }
        return nodes[v].tally.count(ready ? READY : ECHO, cellOf(slot, speaker), x);
    }

    public int accepted(int v, int slot, int speaker) {
        if (!isNode(v) || !isSlot(slot) || !isNode(speaker)) {
            return NONE;
        }
        return nodes[v].taken[cellOf(slot, speaker)];
    }

    public int rowAt(int v, int slot, int k) {
        return isNode(v) && isSlot(slot) ? nodes[v].rows[slot].speakerAt(k) : NONE;
    }

    public int slot(int v) {
        return isNode(v) ? nodes[v].currentSlot : NONE;
    }

    public int value(int v) {
        return isNode(v) ? nodes[v].currentValue : NONE;
    }

    public int decided(int v) {
        return isNode(v) ? nodes[v].decision : NONE;
    }

    private boolean isNode(int v) {
        return v >= 0 && v < nodes.length;
    }

    private boolean isWellBehaved(int v) {
        return isNode(v) && nodes[v].wellBehaved;
    }

    private static boolean isSlot(int slot) {
        return slot >= 0 && slot < SLOTS;
    }

    private static boolean isPlain(int x) {
        return x == 0 || x == 1;
    }

    private static int cellOf(int slot, int speaker) {
        return slot * MOST_NODES + speaker;
    }

    // A message is held as the very number that message() answers, so that none needs an object.
    private static int codeOf(int kind, int slot, int speaker, int x) {
        return 1000 * slot + 100 * speaker + 10 * kind + x;
    }

    /** The messages that a node sent, in order. */
    private static final class Log {
        private final int[] codes = new int[MOST_SENT];
        private int size = 0;

        private void append(int code) {
            if (size < codes.length) {
                codes[size] = code;
                size++;
            }
        }

        private int codeAt(int k) {
            return k >= 0 && k < size ? codes[k] : NONE;
        }
    }

    /** The messages that count among those that a node got. */
    private static final class Tally {
        private final int[] senders = new int[KINDS * CELLS];
        private final int[] counts = new int[KINDS * CELLS * VALUES];

        /** Answers false when a message of this kind and cell has come from the sender before. */
        private boolean countIn(int from, int kind, int cell, int x) {
            int place = kind * CELLS + cell;
            if ((senders[place] >> from & 1) != 0) {
                return false;
            }
            senders[place] |= 1 << from;
            counts[place * VALUES + x]++;
            return true;
        }

        private int count(int kind, int cell, int x) {
            return counts[(kind * CELLS + cell) * VALUES + x];
        }
    }

    /** The speakers whose accepted value for one slot is valid, in the order they came. */
    private static final class Row {
        private final int[] speakers = new int[MOST_NODES];
        private final int[] said = new int[MOST_NODES];
        private final int[] counts = new int[VALUES];
        private int size = 0;

        private void append(int speaker, int x) {
            if (size < speakers.length) {
                speakers[size] = speaker;
                said[size] = x;
                counts[x]++;
                size++;
            }
        }

        private int speakerAt(int k) {
            return k >= 0 && k < size ? speakers[k] : NONE;
        }

        private boolean holds(int speaker) {
            for (int k = 0; k < size; k++) {
                if (speakers[k] == speaker) {
                    return true;
                }
            }
            return false;
        }

        private boolean holdsWith(int speaker, int x) {
            for (int k = 0; k < size; k++) {
                if (speakers[k] == speaker) {
                    return said[k] == x;
                }
            }
            return false;
        }

        private int countInFirst(int places, int x) {
            int found = 0;
            for (int k = 0; k < places && k < size; k++) {
                if (said[k] == x) {
                    found++;
                }
            }
            return found;
        }
    }

    /** What follows from a row, and how many nodes it takes. */
    private static final class Rules {
        private final int count;
        private final int liars;
        private final int chosen;
        private final int echoesForReady;

        private Rules(int count) {
            this.count = count;
            this.liars = (count - 1) / 3;
            this.chosen = count - liars;
            this.echoesForReady = (count + liars) / 2 + 1;
        }

        private boolean isMajority(int some) {
            return 2 * some > count;
        }

        private boolean isFull(Row row) {
            return row.size >= chosen;
        }

        /** Whether x, said by the speaker in a slot after 0, follows from the row before. */
        private boolean follows(int slot, int speaker, int x, Row before) {
            if (!isFull(before)) {
                return false;
            }
            int step = slot % STEPS;
            if (step == 2) {
                return x >= FIRM
                    ? isMajority(mostChosen(before, x - FIRM))
                    : before.holdsWith(speaker, x) && canStayDivided(before);
            }
            if (!isPlain(x)) {
                return false;
            }
            return step == 1
                ? canPrevail(before, x)
                : mostChosen(before, x + FIRM) > liars || canNeedToss(before);
        }

        // The row is full wherever a choice is asked for: what the choice lacks, the others fill.
        private int mostChosen(Row row, int x) {
            return Math.min(row.counts[x], chosen);
        }

        private boolean canPrevail(Row row, int x) {
            int most = 2 * mostChosen(row, x);
            return most > chosen || x == 0 && most == chosen;
        }

        private boolean canStayDivided(Row row) {
            int zeros = Math.min(row.counts[0], count / 2);
            int ones = Math.min(row.counts[1], count / 2);
            return zeros + ones >= chosen;
        }

        private boolean canNeedToss(Row row) {
            int firmZeros = Math.min(row.counts[FIRM], liars);
            int firmOnes = Math.min(row.counts[FIRM + 1], liars);
            return row.counts[0] + row.counts[1] + firmZeros + firmOnes >= chosen;
        }

        private int prevailing(Row row) {
            return row.countInFirst(chosen, 1) > row.countInFirst(chosen, 0) ? 1 : 0;
        }

        private int firmOr(Row row, int own) {
            for (int v = 0; v <= 1; v++) {
                if (isMajority(row.countInFirst(chosen, v))) {
                    return v + FIRM;
                }
            }
            return own;
        }

        /** The value, 0 first, that so many of the row hold firm; NONE when there is none. */
        private int heldFirm(Row row, int least) {
            for (int v = 0; v <= 1; v++) {
                if (row.countInFirst(chosen, v + FIRM) >= least) {
                    return v;
                }
            }
            return NONE;
        }
    }

    /** One node: what it sent, what it got, and what it made of that. */
    private static final class Node {
        private final int self;
        private final Rules rules;
        private final Log log = new Log();
        private final Tally tally = new Tally();
        private final int[] heardOf = new int[MOST_NODES];
        private final boolean[] readied = new boolean[CELLS];
        private final int[] taken = new int[CELLS];
        private final Row[] rows = new Row[SLOTS];
        private boolean wellBehaved = true;
        private int tossBits = 0;
        private int currentSlot = NONE;
        private int currentValue = NONE;
        private int decision = NONE;

        private Node(int self, Rules rules) {
            this.self = self;
            this.rules = rules;
            for (int cell = 0; cell < CELLS; cell++) {
                taken[cell] = NONE;
            }
            for (int s = 0; s < SLOTS; s++) {
                rows[s] = new Row();
            }
        }

        private void enter(int s, int x) {
            currentSlot = s;
            currentValue = x;
            if (s < SLOTS) {
                log.append(codeOf(SAYING, s, self, x));
            }
        }

        /** Answers false when there is no message of that log left to get. */
        private boolean hearNextOf(int from, Log source) {
            int code = source.codeAt(heardOf[from]);
            if (code == NONE) {
                return false;
            }
            heardOf[from]++;
            hear(from, code);
            return true;
        }

        /** Answers whether the message counts. */
        private boolean hear(int from, int code) {
            int s = code / 1000;
            int speaker = code / 100 % 10;
            int kind = code / 10 % 10;
            int x = code % 10;
            if (kind == SAYING && speaker != from) {
                return false;
            }
            if (!tally.countIn(from, kind, cellOf(s, speaker), x)) {
                return false;
            }
            if (kind == SAYING) {
                log.append(codeOf(ECHO, s, speaker, x));
            } else if (kind == ECHO) {
                hearEcho(s, speaker, x);
            } else {
                hearReady(s, speaker, x);
            }
            return true;
        }

        private void hearEcho(int s, int speaker, int x) {
            if (tally.count(ECHO, cellOf(s, speaker), x) >= rules.echoesForReady) {
                sendReadyOnce(s, speaker, x);
            }
        }

        private void hearReady(int s, int speaker, int x) {
            int cell = cellOf(s, speaker);
            int readies = tally.count(READY, cell, x);
            if (readies >= rules.liars + 1) {
                sendReadyOnce(s, speaker, x);
            }
            if (readies >= 2 * rules.liars + 1 && taken[cell] == NONE) {
                taken[cell] = x;
            }
        }

        private void sendReadyOnce(int s, int speaker, int x) {
            int cell = cellOf(s, speaker);
            if (!readied[cell]) {
                readied[cell] = true;
                log.append(codeOf(READY, s, speaker, x));
            }
        }

        private void settle() {
            for (int act = 0; act < MOST_ACTS; act++) {
                if (!hearNextOf(self, log) && !makeOneValid() && !goOn()) {
                    return;
                }
            }
        }

        private boolean makeOneValid() {
            for (int s = 0; s < SLOTS; s++) {
                for (int speaker = 0; speaker < rules.count; speaker++) {
                    if (canBecomeValid(s, speaker)) {
                        rows[s].append(speaker, taken[cellOf(s, speaker)]);
                        return true;
                    }
                }
            }
            return false;
        }

        private boolean canBecomeValid(int s, int speaker) {
            int x = taken[cellOf(s, speaker)];
            if (x == NONE || rows[s].holds(speaker)) {
                return false;
            }
            return s == 0 ? isPlain(x) : rules.follows(s, speaker, x, rows[s - 1]);
        }

        private boolean goOn() {
            if (!isSlot(currentSlot) || !rules.isFull(rows[currentSlot])) {
                return false;
            }
            enter(currentSlot + 1, valueAfter(currentSlot));
            return true;
        }

        private int valueAfter(int s) {
            Row row = rows[s];
            int step = s % STEPS;
            if (step == 0) {
                return rules.prevailing(row);
            }
            return step == 1 ? rules.firmOr(row, currentValue) : endRound(s / STEPS, row);
        }

        private int endRound(int round, Row row) {
            int sure = rules.heldFirm(row, 2 * rules.liars + 1);
            if (sure != NONE) {
                if (decision == NONE) {
                    decision = sure;
                }
                return sure;
            }
            int likely = rules.heldFirm(row, rules.liars + 1);
            return likely != NONE ? likely : tossBits >> round & 1;
        }
    }
}
