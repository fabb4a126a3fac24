/** Node 0 alone is well-behaved, and all others lie to it as the test wants. */
final class Siege {
    /** Whatever the number of nodes, a row of these lets both 0 and 1 follow in the next slot. */
    private static final int[] DIVIDED = {0, 1, 0, 1, 1, 0, 1};

    final EchoedRounds rounds;
    final int nodes;
    final int liars;

    Siege(int nodes) {
        this.nodes = nodes;
        liars = nodes == 7 ? 2 : 1;
        rounds = new EchoedRounds(nodes);
        for (int v = 1; v < nodes; v++) {
            rounds.corrupt(v);
        }
    }

    /** How many speakers a row takes before the node goes on. */
    int chosen() {
        return nodes - liars;
    }

    /** The least number that is more than half of the nodes. */
    int majority() {
        return nodes / 2 + 1;
    }

    /** Brings node 0 to accept x from the speaker by READYs alone; its own READY is the last. */
    Siege accept(int slot, int speaker, int x) {
        for (int liar = 1; liar <= 2 * liars; liar++) {
            rounds.forge(liar, 0, slot, speaker, 8 + x);
        }
        return this;
    }

    /** The values of the speakers 0, 1, 2 .. for one slot, in this order. */
    Siege acceptAll(int slot, int... values) {
        for (int speaker = 0; speaker < values.length; speaker++) {
            accept(slot, speaker, values[speaker]);
        }
        return this;
    }

    /** Whole rows for the slots before, all divided: any value 0 or 1 follows in the slot. */
    Siege leadTo(int slot) {
        for (int s = 0; s < slot; s++) {
            for (int speaker = 0; speaker < nodes; speaker++) {
                accept(s, speaker, DIVIDED[speaker]);
            }
        }
        return this;
    }

    /** As leadTo, but the speakers of the value come first in the row just before the slot. */
    Siege leadTo(int slot, int value) {
        leadTo(slot - 1);
        for (int turn = 0; turn < 2; turn++) {
            for (int speaker = 0; speaker < nodes; speaker++) {
                if (DIVIDED[speaker] == (turn == 0 ? value : 1 - value)) {
                    accept(slot - 1, speaker, DIVIDED[speaker]);
                }
            }
        }
        return this;
    }

    /** What the speaker says where just more than half of the nodes say v. */
    int leaning(int speaker, int v) {
        return speaker < majority() ? v : 1 - v;
    }

    /**
     * As leadTo, for a slot of step 2: in the row before, just more than half say v, so that v
     * follows firm, and plain values follow too.
     */
    Siege leadToFirm(int slot, int v) {
        leadTo(slot - 1);
        for (int speaker = 0; speaker < nodes; speaker++) {
            accept(slot - 1, speaker, leaning(speaker, v));
        }
        return this;
    }

    boolean inRow(int slot, int speaker) {
        for (int k = 0; k < nodes; k++) {
            if (rounds.rowAt(0, slot, k) == speaker) {
                return true;
            }
        }
        return false;
    }

    int messageLast() {
        return rounds.message(0, rounds.sent(0) - 1);
    }
}
