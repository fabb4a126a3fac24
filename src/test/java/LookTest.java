/**
 * The promises 7 to 15: what they answer, and what when a number is out of range or there is none.
 * Wherever a number is out of range there is something just beside it that must not be answered.
 */
public final class LookTest {
    private static final int NONE = EchoedRounds.NONE;
    private static final int SAYING = 0;
    private static final int ECHO = 4;
    private static final int READY = 8;
    private static final Checks CHECKS = new Checks();

    // 613566757 * 7 is 3 when it wraps around; 32 and 256 are 0 to a shift and to a byte.
    private static final int[] FAR = {Integer.MIN_VALUE, Integer.MIN_VALUE + 1, -613566756, -256, -9, -2, -1,
        16, 31, 32, 33, 100, 256, 65536, 613566757, 1 << 30, Integer.MAX_VALUE - 1, Integer.MAX_VALUE};

    public static void main(String[] args) {
        for (int n = 4; n <= 7; n++) {
            sent(n);
            message(n);
            waiting(n);
            votes(n);
            votesOutOfRange(n);
            accepted(n);
            acceptedNone(n);
            rowAt(n);
            slotAndValue(n);
            decided(n);
        }
        CHECKS.end();
    }

    /** The far numbers, and those from the first that is out of range on. */
    private static int[] farFrom(int first) {
        int[] far = java.util.Arrays.copyOf(FAR, FAR.length + 3);
        for (int k = 0; k < 3; k++) {
            far[FAR.length + k] = first + k;
        }
        return far;
    }

    private static EchoedRounds allStarted(int n) {
        EchoedRounds x = new EchoedRounds(n);
        for (int v = 0; v < n; v++) {
            x.start(v, 1);
        }
        return x;
    }

    private static void sent(int n) {
        CHECKS.sentence("7: The number of messages in the log of node v");
        EchoedRounds x = new EchoedRounds(n);
        same("none at first", x.sent(n - 1), 0);
        x.start(n - 1, 0);
        same("saying and echo", x.sent(n - 1), 2);
        x.pass(n - 1, 0, 1);
        same("one echo", x.sent(0), 1);
        same("others sent nothing", x.sent(1), 0);
        x.corrupt(0);
        same("of the ill-behaved too", x.sent(0), 1);
        CHECKS.sentence("7: NONE when v is no node");
        EchoedRounds all = allStarted(n);
        for (int v : farFrom(n)) {
            same("sent(" + v + ")", all.sent(v), NONE);
        }
    }

    private static void message(int n) {
        CHECKS.sentence("8: Message number k (0 the oldest), as 1000 * slot + 100 * speaker + 10 * kind + value");
        int last = n - 1;
        Siege siege = new Siege(n);
        siege.rounds.forge(last, 0, 8, last, SAYING + 3);
        siege.accept(7, last - 1, 2);
        siege.rounds.start(0, 1);
        int[] due = {8013 + 100 * last, 7022 + 100 * (last - 1), 1, 11};
        for (int k = 0; k < due.length; k++) {
            same("message " + k, siege.rounds.message(0, k), due[k]);
        }
        CHECKS.sentence("8: NONE when there is none");
        for (int k : new int[] {Integer.MIN_VALUE, -4, -1, 4, 5, 63, 134, 135, 136, 256, Integer.MAX_VALUE}) {
            same("message(0, " + k + ")", siege.rounds.message(0, k), NONE);
        }
        same("empty log", siege.rounds.message(1, 0), NONE);
        EchoedRounds all = allStarted(n);
        for (int v : farFrom(n)) {
            same("message(" + v + ", 0)", all.message(v, 0), NONE);
            same("message(" + v + ", " + v + ")", all.message(v, v), NONE);
        }
        siege.rounds.corrupt(0);
        same("of the ill-behaved too", siege.rounds.message(0, 0), due[0]);
    }

    private static void waiting(int n) {
        CHECKS.sentence("9: How many messages of the log of node v node w has not got");
        EchoedRounds x = new EchoedRounds(n);
        x.start(2, 1);
        for (int w = 0; w < n; w++) {
            same("waiting(2, " + w + ")", x.waiting(2, w), w == 2 ? 0 : 2);
            same("the other way", x.waiting(w, 2), 0);
        }
        x.pass(2, 3, 1);
        same("one got", x.waiting(2, 3), 1);
        same("the other way, an echo", x.waiting(3, 2), 1);
        x.corrupt(3);
        same("stays with the ill-behaved", x.waiting(2, 3), 1);
        x.corrupt(0);
        x.forge(0, 2, 0, 0, SAYING);
        same("grows for the ill-behaved", x.waiting(2, 3), 2);
        same("the ill-behaved of itself", x.waiting(3, 3), 0);
        same("what is forged does not wait", x.waiting(0, 2), 0);
        CHECKS.sentence("9: NONE when v or w is no node");
        EchoedRounds all = allStarted(n);
        for (int v : farFrom(n)) {
            same("waiting(" + v + ", 0)", all.waiting(v, 0), NONE);
            same("waiting(0, " + v + ")", all.waiting(0, v), NONE);
            same("waiting(" + v + ", " + v + ")", all.waiting(v, v), NONE);
        }
    }

    private static void votes(int n) {
        CHECKS.sentence("10: From how many nodes node v got ECHO, or READY if ready, for slot, speaker and the value x, as far as they count");
        Siege siege = new Siege(n);
        EchoedRounds x = siege.rounds;
        x.forge(1, 0, 4, 3, ECHO + 2);
        x.forge(2, 0, 4, 3, ECHO + 2);
        x.forge(3, 0, 4, 3, ECHO + 1);
        same("a saying that does not count", bit(x.forge(2, 0, 4, 3, SAYING + 2)), 0);
        same("a second echo", bit(x.forge(3, 0, 4, 3, ECHO + 2)), 0);
        x.forge(3, 0, 4, 3, READY + 2);
        same("echoes", x.votes(0, 4, 3, 2, false), 2);
        same("echoes of another value", x.votes(0, 4, 3, 1, false), 1);
        same("READYs", x.votes(0, 4, 3, 2, true), 1);
        same("no READYs of another value", x.votes(0, 4, 3, 1, true), 0);
        same("another slot", x.votes(0, 3, 3, 2, false), 0);
        same("another speaker", x.votes(0, 4, 2, 2, false), 0);
        same("another node", x.votes(1, 4, 3, 2, false), 0);
        Siege whole = new Siege(n);
        for (int liar = 1; liar < n; liar++) {
            whole.rounds.forge(liar, 0, 8, n - 1, ECHO + 3);
            whole.rounds.forge(liar, 0, 0, 0, READY);
            same("echoes of so many", whole.rounds.votes(0, 8, n - 1, 3, false), liar);
        }
        same("READYs of all, its own too", whole.rounds.votes(0, 0, 0, 0, true), n);
    }

    /** Every slot and speaker has a vote for 0 and one for 3, of both kinds. */
    private static void votesOutOfRange(int n) {
        CHECKS.sentence("10: 0 when v or speaker is no node, slot is not 0 .. 8, or x is not 0 .. 3");
        for (int kind = ECHO; kind <= READY; kind += 4) {
            EchoedRounds x = new Siege(n).rounds;
            for (int cell = 0; cell < 9 * n; cell++) {
                x.forge(1, 0, cell / n, cell % n, kind);
                x.forge(2, 0, cell / n, cell % n, kind + 3);
            }
            lookOutOfRange(x, n, kind);
        }
        for (int kind = ECHO; kind <= READY; kind += 4) {
            EchoedRounds x = new Siege(n).rounds;
            for (int cell = 0; cell < 9 * n; cell++) {
                x.forge(1, 0, cell / n, cell % n, 12 - kind);
                x.forge(2, 0, cell / n, cell % n, 12 - kind + 3);
            }
            // The other kind stands beside it, and has no vote.
            same("the other kind", x.votes(0, 0, 0, 0, kind == READY), 0);
            for (int slot : new int[] {-1, 9}) {
                for (int speaker = 0; speaker < n; speaker++) {
                    same("slot " + slot, x.votes(0, slot, speaker, 0, kind == READY), 0);
                    same("slot " + slot, x.votes(0, slot, speaker, 3, kind == READY), 0);
                }
            }
        }
    }

    private static void lookOutOfRange(EchoedRounds x, int n, int kind) {
        boolean ready = kind == READY;
        for (int v : farFrom(n)) {
            same("votes of node " + v, x.votes(v, 4, 2, 0, ready), 0);
            same("votes of speaker " + v, x.votes(0, 4, v, 0, ready), 0);
        }
        for (int slot : farFrom(9)) {
            same("votes of slot " + slot, x.votes(0, slot, 2, 0, ready), 0);
        }
        for (int value : farFrom(4)) {
            same("votes of value " + value, x.votes(0, 4, 2, value, ready), 0);
            same("votes of value " + value + " at the end", x.votes(0, 8, n - 1, value, ready), 0);
            same("votes of value " + value + " at the beginning", x.votes(0, 0, 0, value, ready), 0);
        }
        same("least slot and speaker", x.votes(0, 0, 0, 0, ready), 1);
        same("last slot and speaker", x.votes(0, 8, n - 1, 3, ready), 1);
    }

    private static void accepted(int n) {
        CHECKS.sentence("11: The value that node v accepted for slot and speaker");
        for (int value = 0; value <= 3; value++) {
            for (int slot = 0; slot <= 8; slot++) {
                Siege siege = new Siege(n).accept(slot, n - 1, value).accept(slot, 0, 3 - value);
                same("accepted", siege.rounds.accepted(0, slot, n - 1), value);
                same("accepted", siege.rounds.accepted(0, slot, 0), 3 - value);
                siege.rounds.corrupt(0);
                same("stays with the ill-behaved", siege.rounds.accepted(0, slot, n - 1), value);
            }
        }
    }

    private static void acceptedNone(int n) {
        CHECKS.sentence("11: NONE when it accepted none, or v, slot or speaker is out of range");
        Siege one = new Siege(n).accept(4, 2, 0);
        same("accepted", one.rounds.accepted(0, 4, 2), 0);
        for (int v = 0; v < n; v++) {
            same("another speaker", one.rounds.accepted(0, 4, v), v == 2 ? 0 : NONE);
            same("another node", one.rounds.accepted(v, 4, 2), v == 0 ? 0 : NONE);
        }
        for (int slot = 0; slot <= 8; slot++) {
            same("another slot", one.rounds.accepted(0, slot, 2), slot == 4 ? 0 : NONE);
        }
        Siege whole = new Siege(n).leadTo(9);
        for (int v : farFrom(n)) {
            same("accepted(" + v + ", 4, 2)", whole.rounds.accepted(v, 4, 2), NONE);
            same("accepted(0, 4, " + v + ")", whole.rounds.accepted(0, 4, v), NONE);
            same("accepted(0, 8, " + v + ")", whole.rounds.accepted(0, 8, v), NONE);
            same("accepted(0, 0, " + v + ")", whole.rounds.accepted(0, 0, v), NONE);
        }
        for (int slot : farFrom(9)) {
            same("accepted(0, " + slot + ", 2)", whole.rounds.accepted(0, slot, 2), NONE);
            same("accepted(0, " + slot + ", " + (n - 1) + ")", whole.rounds.accepted(0, slot, n - 1), NONE);
        }
    }

    private static void rowAt(int n) {
        CHECKS.sentence("12: The speaker at place k (from 0) of the row of node v for slot");
        Siege siege = new Siege(n).accept(0, 3, 1).accept(0, 0, 0).accept(0, 2, 2).accept(0, 1, 1);
        int[] row = {3, 0, 1};
        for (int k = 0; k < row.length; k++) {
            same("in the order they came", siege.rounds.rowAt(0, 0, k), row[k]);
        }
        CHECKS.sentence("12: NONE when there is none, or v or slot is out of range");
        for (int k : farFrom(row.length)) {
            same("rowAt(0, 0, " + k + ")", siege.rounds.rowAt(0, 0, k), NONE);
        }
        same("another slot", siege.rounds.rowAt(0, 1, 0), NONE);
        same("another node", siege.rounds.rowAt(1, 0, 0), NONE);
        Siege whole = new Siege(n).leadTo(9);
        same("the last of a whole row", whole.rounds.rowAt(0, 8, n - 1), n - 1);
        for (int k : farFrom(n)) {
            same("rowAt(0, 4, " + k + ")", whole.rounds.rowAt(0, 4, k), NONE);
            same("rowAt(" + k + ", 0, 0)", whole.rounds.rowAt(k, 0, 0), NONE);
        }
        for (int slot : farFrom(9)) {
            same("rowAt(0, " + slot + ", 0)", whole.rounds.rowAt(0, slot, 0), NONE);
        }
        whole.rounds.corrupt(0);
        same("of the ill-behaved too", whole.rounds.rowAt(0, 8, n - 1), n - 1);
    }

    private static void slotAndValue(int n) {
        Siege siege = new Siege(n);
        EchoedRounds x = siege.rounds;
        CHECKS.sentence("13, 14: NONE when it was not started");
        same("slot, not started", x.slot(0), NONE);
        same("value, not started", x.value(0), NONE);
        siege.accept(0, 1, 1);
        same("slot, with a row, not started", x.slot(0), NONE);
        same("value, with a row, not started", x.value(0), NONE);
        CHECKS.sentence("13, 14: The slot in which node v is (0 .. 9); The value of node v");
        x.start(0, 0);
        int[] values = {0, 1, 3, 1, 1, 3, 1, 1, 3, 1};
        for (int s = 0; s <= 8; s++) {
            same("slot", x.slot(0), s);
            same("value in slot " + s, x.value(0), values[s]);
            for (int speaker = 1; speaker <= siege.chosen(); speaker++) {
                siege.accept(s, speaker % n, s % 3 == 2 ? 3 : 1);
            }
        }
        same("the last slot", x.slot(0), 9);
        same("value in the last slot", x.value(0), values[9]);
        x.corrupt(0);
        same("slot of the ill-behaved", x.slot(0), 9);
        same("value of the ill-behaved", x.value(0), 1);
        CHECKS.sentence("13, 14: NONE when v is no node");
        EchoedRounds all = allStarted(n);
        for (int v : farFrom(n)) {
            same("slot(" + v + ")", all.slot(v), NONE);
            same("value(" + v + ")", all.value(v), NONE);
        }
    }

    private static void decided(int n) {
        for (int v = 0; v <= 1; v++) {
            CHECKS.sentence("15: NONE when it has not decided");
            Siege siege = new Siege(n);
            same("not before the start", siege.rounds.decided(0), NONE);
            siege.rounds.start(0, 1 - v);
            same("not at the start", siege.rounds.decided(0), NONE);
            siege.leadToFirm(2, v);
            for (int speaker = 0; speaker < siege.chosen(); speaker++) {
                same("not before going on", siege.rounds.decided(0), NONE);
                siege.accept(2, speaker, v + 2);
            }
            CHECKS.sentence("15: What node v decided");
            same("decided", siege.rounds.decided(0), v);
            siege.leadTo(2);
            same("decided still", siege.rounds.decided(0), v);
            siege.rounds.corrupt(0);
            same("of the ill-behaved too", siege.rounds.decided(0), v);
            CHECKS.sentence("15: NONE when it has not decided, or v is no node");
            same("another node", siege.rounds.decided(1), NONE);
            for (int far : farFrom(n)) {
                same("decided(" + far + ")", siege.rounds.decided(far), NONE);
            }
        }
    }

    private static int bit(boolean answer) {
        return answer ? 1 : 0;
    }

    private static void same(String what, int got, int due) {
        CHECKS.same(what, got, due);
    }
}
