/** Node 0 alone is well-behaved, and all others lie to it as the test wants. */
final class Siege {
    final EchoedRounds rounds;
    private final int nodes;

    Siege(int nodes) {
        this.nodes = nodes;
        rounds = new EchoedRounds(nodes);
        for (int v = 1; v < nodes; v++) {
            rounds.corrupt(v);
        }
    }

    /** Brings node 0 to accept x from the speaker by READYs alone. */
    Siege accept(int slot, int speaker, int x) {
        for (int liar = 1; liar < nodes && rounds.accepted(0, slot, speaker) == EchoedRounds.NONE; liar++) {
            rounds.forge(liar, 0, slot, speaker, 8 + x);
        }
        return this;
    }

    /** The values of the speakers 0, 1, 2 .. for one slot, in this order. */
    Siege acceptAll(int slot, int... values) {
        for (int speaker = 0; speaker < values.length; speaker++) {
            accept(slot, speaker, values[speaker]);
        }
        return this;
    }

    /** A row of slot 0 from which 0 and 1 both follow. */
    Siege divide() {
        return acceptAll(0, java.util.Arrays.copyOfRange(new int[] {0, 1, 0, 1, 1, 0, 1}, 0, nodes));
    }

    boolean inRow(int slot, int speaker) {
        for (int k = 0; k < nodes; k++) {
            if (rounds.rowAt(0, slot, k) == speaker) {
                return true;
            }
        }
        return false;
    }

    int messageLast() {
        return rounds.message(0, rounds.sent(0) - 1);
    }
}
