/**
 * Two objects, each made anew and played on, are compared by every look that the face allows. As
 * there are more looks than the 512 calls for which the document speaks, they are made anew for
 * each part of them.
 */
final class Twins {
    private static final int LOOKS_AT_ONCE = 200;

    /** Some calls on a new object, 312 at most. */
    interface Play {
        void on(EchoedRounds x);
    }

    private final Checks checks;
    private final int nodes;

    Twins(Checks checks, int nodes) {
        this.checks = checks;
        this.nodes = nodes;
    }

    void same(String what, Play one, Play other) {
        int looks = nodes * looksAtNode();
        for (int from = 0; from < looks; from += LOOKS_AT_ONCE) {
            EchoedRounds x = new EchoedRounds(nodes);
            EchoedRounds y = new EchoedRounds(nodes);
            one.on(x);
            other.on(y);
            for (int k = from; k < looks && k < from + LOOKS_AT_ONCE; k++) {
                int v = k / looksAtNode();
                int number = k % looksAtNode();
                checks.same(what + ", look " + number + " at node " + v, look(x, v, number), look(y, v, number));
            }
        }
    }

    private int messages() {
        return 9 + 18 * nodes;
    }

    private int looksAtNode() {
        return 4 + nodes + messages() + 2 * 9 * nodes + 9 * nodes * 8;
    }

    private int look(EchoedRounds x, int v, int number) {
        int k = number - 4;
        if (k < 0) {
            return lookAtWhole(x, v, number);
        }
        if (k < nodes) {
            return x.waiting(k, v);
        }
        k -= nodes;
        if (k < messages()) {
            return x.message(v, k);
        }
        k -= messages();
        int slot = k / nodes % 9;
        if (k < 9 * nodes) {
            return x.accepted(v, slot, k % nodes);
        }
        k -= 9 * nodes;
        if (k < 9 * nodes) {
            return x.rowAt(v, slot, k % nodes);
        }
        k -= 9 * nodes;
        int vote = k / (9 * nodes);
        return x.votes(v, k / nodes % 9, k % nodes, vote % 4, vote >= 4);
    }

    private static int lookAtWhole(EchoedRounds x, int v, int number) {
        switch (number) {
            case 0:
                return x.sent(v);
            case 1:
                return x.slot(v);
            case 2:
                return x.value(v);
            default:
                return x.decided(v);
        }
    }
}
