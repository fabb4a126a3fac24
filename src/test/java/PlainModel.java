import java.util.ArrayList;
import java.util.List;

/**
 * The document once more, written as near to its words as can be and with no thought of cost: it
 * keeps every message that counts, counts anew each time, and tries every choice of speakers. The
 * class is compared with it on many runs.
 */
final class PlainModel {
    static final int NONE = -1;

    private record Message(int from, int kind, int slot, int speaker, int x) { }

    private record Entry(int speaker, int x) { }

    private interface Condition {
        boolean holds(List<Integer> values);
    }

    private static final class Peer {
        final List<Message> log = new ArrayList<>();
        final List<Message> counted = new ArrayList<>();
        final List<List<Entry>> rows = new ArrayList<>();
        final List<Message> acceptances = new ArrayList<>();
        final int[] got = new int[7];
        final int[] tosses = new int[3];
        boolean ill = false;
        boolean started = false;
        int slot = NONE;
        int value = NONE;
        int decided = NONE;
    }

    private final int n;
    private final int f;
    private final Peer[] peers;
    /** What the runs came through, to see that they go far enough. */
    int decisions = 0;
    int tossed = 0;
    int finished = 0;

    PlainModel(int nodes) {
        n = nodes < 4 ? 4 : nodes > 7 ? 7 : nodes;
        f = (n - 1) / 3;
        peers = new Peer[n];
        for (int v = 0; v < n; v++) {
            peers[v] = new Peer();
            for (int s = 0; s < 9; s++) {
                peers[v].rows.add(new ArrayList<>());
            }
        }
    }

    private boolean node(int v) {
        return 0 <= v && v < n;
    }

    boolean well(int v) {
        return node(v) && !peers[v].ill;
    }

    boolean corrupt(int v) {
        if (!well(v)) {
            return false;
        }
        peers[v].ill = true;
        return true;
    }

    boolean tosses(int v, int bits) {
        if (!well(v)) {
            return false;
        }
        for (int r = 0; r < 3; r++) {
            peers[v].tosses[r] = (bits & (1 << r)) == 0 ? 0 : 1;
        }
        return true;
    }

    boolean start(int v, int x) {
        if (!well(v) || peers[v].started || x < 0 || x > 1) {
            return false;
        }
        Peer me = peers[v];
        me.started = true;
        me.slot = 0;
        me.value = x;
        me.log.add(new Message(v, 0, 0, v, x));
        settle(v);
        return true;
    }

    int pass(int v, int w, int count) {
        if (!node(v) || !well(w) || v == w || count < 1 || count > 100) {
            return NONE;
        }
        int passed = 0;
        while (passed < count && peers[w].got[v] < peers[v].log.size()) {
            get(w, peers[v].log.get(peers[w].got[v]++));
            settle(w);
            passed++;
        }
        return passed;
    }

    boolean forge(int v, int w, int slot, int speaker, int what) {
        if (!node(v) || well(v) || !well(w) || slot < 0 || slot > 8 || !node(speaker) || what < 0 || what > 11) {
            return false;
        }
        boolean counts = get(w, new Message(v, what / 4, slot, speaker, what % 4));
        settle(w);
        return counts;
    }

    private boolean get(int w, Message m) {
        Peer me = peers[w];
        if (m.kind == 0 && m.from != m.speaker) {
            return false;
        }
        for (Message old : me.counted) {
            if (old.from == m.from && old.kind == m.kind && old.slot == m.slot && old.speaker == m.speaker) {
                return false;
            }
        }
        me.counted.add(m);
        int same = 0;
        for (Message old : me.counted) {
            if (old.kind == m.kind && old.slot == m.slot && old.speaker == m.speaker && old.x == m.x) {
                same++;
            }
        }
        if (m.kind == 0) {
            me.log.add(new Message(w, 1, m.slot, m.speaker, m.x));
        }
        boolean enough = m.kind == 1 && same >= (n + f) / 2 + 1 || m.kind == 2 && same >= f + 1;
        if (enough && !sentReady(me, m)) {
            me.log.add(new Message(w, 2, m.slot, m.speaker, m.x));
        }
        if (m.kind == 2 && same >= 2 * f + 1 && acceptance(me, m.slot, m.speaker) == NONE) {
            me.acceptances.add(m);
        }
        return true;
    }

    private static boolean sentReady(Peer me, Message m) {
        for (Message old : me.log) {
            if (old.kind == 2 && old.slot == m.slot && old.speaker == m.speaker) {
                return true;
            }
        }
        return false;
    }

    private static int acceptance(Peer me, int slot, int speaker) {
        for (Message m : me.acceptances) {
            if (m.slot == slot && m.speaker == speaker) {
                return m.x;
            }
        }
        return NONE;
    }

    private void settle(int v) {
        boolean moved = true;
        while (moved) {
            moved = getOwn(v) || validate(peers[v]) || goOn(v);
        }
    }

    private boolean getOwn(int v) {
        Peer me = peers[v];
        if (me.got[v] == me.log.size()) {
            return false;
        }
        get(v, me.log.get(me.got[v]++));
        return true;
    }

    private boolean validate(Peer me) {
        for (int s = 0; s < 9; s++) {
            for (int p = 0; p < n; p++) {
                int x = acceptance(me, s, p);
                if (x != NONE && find(me.rows.get(s), p) == NONE && canBecomeValid(me, s, p, x)) {
                    me.rows.get(s).add(new Entry(p, x));
                    return true;
                }
            }
        }
        return false;
    }

    private static int find(List<Entry> row, int speaker) {
        for (Entry e : row) {
            if (e.speaker == speaker) {
                return e.x;
            }
        }
        return NONE;
    }

    private boolean canBecomeValid(Peer me, int s, int p, int x) {
        if (s == 0) {
            return x == 0 || x == 1;
        }
        List<Entry> before = me.rows.get(s - 1);
        if (s % 3 == 1) {
            return x <= 1 && someChoice(before, c -> count(c, x) > c.size() - count(c, x)
                || x == 0 && count(c, x) == c.size() - count(c, x));
        }
        if (s % 3 == 2 && x >= 2) {
            return someChoice(before, c -> 2 * count(c, x - 2) > n);
        }
        if (s % 3 == 2) {
            return find(before, p) == x
                && someChoice(before, c -> !(2 * count(c, 0) > n) && !(2 * count(c, 1) > n));
        }
        return x <= 1 && someChoice(before, c -> count(c, x + 2) >= f + 1
            || count(c, 2) <= f && count(c, 3) <= f);
    }

    private boolean someChoice(List<Entry> row, Condition condition) {
        for (int mask = 0; mask < 1 << row.size(); mask++) {
            if (Integer.bitCount(mask) != n - f) {
                continue;
            }
            List<Integer> values = new ArrayList<>();
            for (int k = 0; k < row.size(); k++) {
                if ((mask & 1 << k) != 0) {
                    values.add(row.get(k).x);
                }
            }
            if (condition.holds(values)) {
                return true;
            }
        }
        return false;
    }

    private static int count(List<Integer> values, int x) {
        int count = 0;
        for (int value : values) {
            count += value == x ? 1 : 0;
        }
        return count;
    }

    private boolean goOn(int v) {
        Peer me = peers[v];
        if (!me.started || me.slot == 9 || me.rows.get(me.slot).size() < n - f) {
            return false;
        }
        List<Integer> first = new ArrayList<>();
        for (Entry e : me.rows.get(me.slot).subList(0, n - f)) {
            first.add(e.x);
        }
        if (me.slot % 3 == 0) {
            me.value = count(first, 1) > count(first, 0) ? 1 : 0;
        } else if (me.slot % 3 == 1) {
            if (2 * count(first, 0) > n) {
                me.value = 2;
            } else if (2 * count(first, 1) > n) {
                me.value = 3;
            }
        } else {
            me.value = afterRound(me, first);
        }
        me.slot++;
        if (me.slot < 9) {
            me.log.add(new Message(v, 0, me.slot, v, me.value));
        } else {
            finished++;
        }
        return true;
    }

    private int afterRound(Peer me, List<Integer> first) {
        for (int v = 0; v < 2; v++) {
            if (count(first, v + 2) >= 2 * f + 1) {
                if (me.decided == NONE) {
                    me.decided = v;
                    decisions++;
                }
                return v;
            }
        }
        for (int v = 0; v < 2; v++) {
            if (count(first, v + 2) >= f + 1) {
                return v;
            }
        }
        tossed++;
        return me.tosses[me.slot / 3];
    }

    int sent(int v) {
        return node(v) ? peers[v].log.size() : NONE;
    }

    int message(int v, int k) {
        if (!node(v) || k < 0 || k >= peers[v].log.size()) {
            return NONE;
        }
        Message m = peers[v].log.get(k);
        return 1000 * m.slot + 100 * m.speaker + 10 * m.kind + m.x;
    }

    int waiting(int v, int w) {
        return node(v) && node(w) ? peers[v].log.size() - peers[w].got[v] : NONE;
    }

    int votes(int v, int slot, int speaker, int x, boolean ready) {
        if (!node(v)) {
            return 0;
        }
        int votes = 0;
        for (Message m : peers[v].counted) {
            if (m.kind == (ready ? 2 : 1) && m.slot == slot && m.speaker == speaker && m.x == x) {
                votes++;
            }
        }
        return votes;
    }

    int accepted(int v, int slot, int speaker) {
        return node(v) ? acceptance(peers[v], slot, speaker) : NONE;
    }

    int rowAt(int v, int slot, int k) {
        if (!node(v) || slot < 0 || slot > 8 || k < 0 || k >= peers[v].rows.get(slot).size()) {
            return NONE;
        }
        return peers[v].rows.get(slot).get(k).speaker;
    }

    int slot(int v) {
        return node(v) ? peers[v].slot : NONE;
    }

    int value(int v) {
        return node(v) ? peers[v].value : NONE;
    }

    int decided(int v) {
        return node(v) ? peers[v].decided : NONE;
    }
}
