import java.util.ArrayList;
import java.util.List;

/** Each case that the document refuses, in several states, and that it changes nothing. */
public final class RefusalTest {
    private static final int NONE = EchoedRounds.NONE;
    private static final int AT_ONCE = 60;
    private static final Checks CHECKS = new Checks();

    // 613566757 * 7 is 3 when it wraps around; 32 and 256 are 0 to a shift and to a byte.
    private static final int[] FAR = {Integer.MIN_VALUE, Integer.MIN_VALUE + 1, -613566756, -256, -9, -2, -1,
        16, 31, 32, 33, 100, 256, 65536, 613566757, 1 << 30, Integer.MAX_VALUE - 1, Integer.MAX_VALUE};

    private interface Call {
        int on(EchoedRounds x);
    }

    private record Refused(String sentence, String name, int due, Call call) { }

    private record State(String name, Twins.Play play) { }

    private final int n;
    private final List<Refused> refused = new ArrayList<>();

    private RefusalTest(int n) {
        this.n = n;
    }

    public static void main(String[] args) {
        for (int n = 4; n <= 7; n++) {
            RefusalTest test = new RefusalTest(n);
            test.listCorruptAndTosses();
            test.listStart();
            test.listPass();
            test.listForge();
            test.lookAtStates();
            for (State state : test.states()) {
                test.lookAtAnswers(state);
                test.lookAtState(state);
            }
        }
        CHECKS.end();
    }

    private int[] noNodes() {
        int[] far = java.util.Arrays.copyOf(FAR, FAR.length + 2);
        far[FAR.length] = n;
        far[FAR.length + 1] = n + 1;
        return far;
    }

    private void no(String sentence, String name, Call call) {
        refused.add(new Refused(sentence, name, 0, call));
    }

    private void none(String sentence, String name, Call call) {
        refused.add(new Refused(sentence, name, NONE, call));
    }

    private static int bit(boolean answer) {
        return answer ? 1 : 0;
    }

    // In each state nodes 2 and 3 are ill-behaved, 0 and 1 are not; 0 was started, 1 was not.

    private void listCorruptAndTosses() {
        for (int v : noNodes()) {
            no("corrupt, Refused: v is no node", "corrupt(" + v + ")", x -> bit(x.corrupt(v)));
            no("tosses, Refused: v is no node", "tosses(" + v + ", 7)", x -> bit(x.tosses(v, 7)));
        }
        for (int v = 2; v <= 3; v++) {
            int ill = v;
            no("corrupt, Refused: or ill-behaved", "corrupt(" + ill + ")", x -> bit(x.corrupt(ill)));
            no("tosses, Refused: or ill-behaved", "tosses(" + ill + ", 7)", x -> bit(x.tosses(ill, 7)));
        }
    }

    private void listStart() {
        for (int value = 0; value <= 1; value++) {
            int given = value;
            for (int v : noNodes()) {
                no("start, Refused: v is no node", "start(" + v + ", " + given + ")", x -> bit(x.start(v, given)));
            }
            no("start, Refused: or ill-behaved", "start(2, " + given + ")", x -> bit(x.start(2, given)));
            no("start, Refused: or ill-behaved", "start(3, " + given + ")", x -> bit(x.start(3, given)));
            no("start, Refused: or was started", "start(0, " + given + ")", x -> bit(x.start(0, given)));
        }
        for (int value : new int[] {Integer.MIN_VALUE, -2, -1, 2, 3, 4, 256, 257, Integer.MAX_VALUE}) {
            no("start, Refused: x is not 0 or 1", "start(1, " + value + ")", x -> bit(x.start(1, value)));
        }
    }

    private void listPass() {
        for (int v : noNodes()) {
            none("pass, Refused: v or w is no node", "pass(" + v + ", 1, 5)", x -> x.pass(v, 1, 5));
            none("pass, Refused: v or w is no node", "pass(0, " + v + ", 5)", x -> x.pass(0, v, 5));
            none("pass, Refused: v or w is no node", "pass(" + v + ", " + v + ", 5)", x -> x.pass(v, v, 5));
        }
        for (int v = 0; v < n; v++) {
            int both = v;
            none("pass, Refused: v is w", "pass(" + v + ", " + v + ", 1)", x -> x.pass(both, both, 1));
        }
        for (int w = 2; w <= 3; w++) {
            int ill = w;
            none("pass, Refused: w is ill-behaved", "pass(0, " + w + ", 5)", x -> x.pass(0, ill, 5));
            none("pass, Refused: w is ill-behaved", "pass(1, " + w + ", 100)", x -> x.pass(1, ill, 100));
        }
        for (int many : new int[] {Integer.MIN_VALUE, -100, -1, 0, 101, 102, 256, 257, 65537, Integer.MAX_VALUE}) {
            none("pass, Refused: n is not 1 .. 100", "pass(0, 1, " + many + ")", x -> x.pass(0, 1, many));
            none("pass, Refused: n is not 1 .. 100", "pass(2, 0, " + many + ")", x -> x.pass(2, 0, many));
            none("pass, Refused: n is not 1 .. 100", "pass(1, 0, " + many + ")", x -> x.pass(1, 0, many));
        }
    }

    private void listForge() {
        for (int what = 0; what <= 11; what++) {
            int whole = what;
            no("forge, Refused: v is well-behaved", "forge(0, 1, 0, 0, " + what + ")", x -> bit(x.forge(0, 1, 0, 0, whole)));
            no("forge, Refused: v is well-behaved", "forge(1, 0, 1, 1, " + what + ")", x -> bit(x.forge(1, 0, 1, 1, whole)));
            no("forge, Refused: w is ill-behaved", "forge(2, 3, 1, 2, " + what + ")", x -> bit(x.forge(2, 3, 1, 2, whole)));
            no("forge, Refused: w is ill-behaved", "forge(3, 3, 1, 3, " + what + ")", x -> bit(x.forge(3, 3, 1, 3, whole)));
        }
        for (int v : noNodes()) {
            for (int what = 1; what <= 9; what += 4) {
                int whole = what;
                no("forge, Refused: v is no node", "forge(" + v + ", 0, 2, 2, " + what + ")", x -> bit(x.forge(v, 0, 2, 2, whole)));
                no("forge, Refused: v is no node", "forge(" + v + ", 0, 2, " + v + ", " + what + ")",
                    x -> bit(x.forge(v, 0, 2, v, whole)));
                no("forge, Refused: w is no node", "forge(2, " + v + ", 2, 2, " + what + ")", x -> bit(x.forge(2, v, 2, 2, whole)));
                no("forge, Refused: speaker is no node", "forge(2, 1, 2, " + v + ", " + what + ")",
                    x -> bit(x.forge(2, 1, 2, v, whole)));
            }
        }
        listForgeSlotAndWhat();
    }

    private void listForgeSlotAndWhat() {
        int[] slots = java.util.Arrays.copyOf(FAR, FAR.length + 2);
        slots[FAR.length] = 9;
        slots[FAR.length + 1] = 10;
        for (int slot : slots) {
            for (int what = 1; what <= 9; what += 4) {
                int whole = what;
                no("forge, Refused: slot is not 0 .. 8", "forge(2, 0, " + slot + ", 2, " + what + ")",
                    x -> bit(x.forge(2, 0, slot, 2, whole)));
            }
        }
        int[] whats = java.util.Arrays.copyOf(FAR, FAR.length + 4);
        for (int k = 0; k < 4; k++) {
            whats[FAR.length + k] = 12 + k;
        }
        for (int what : whats) {
            no("forge, Refused: what is not 0 .. 11", "forge(3, 0, 5, 3, " + what + ")", x -> bit(x.forge(3, 0, 5, 3, what)));
            no("forge, Refused: what is not 0 .. 11", "forge(2, 1, 0, 2, " + what + ")", x -> bit(x.forge(2, 1, 0, 2, what)));
        }
    }

    private List<State> states() {
        return List.of(
            new State("at the beginning", RefusalTest::begin),
            new State("in the middle", this::middle),
            new State("at the end", this::end));
    }

    /** The states are what the cases take them to be. */
    private void lookAtStates() {
        CHECKS.sentence("the states in which calls are refused");
        for (State state : states()) {
            EchoedRounds x = new EchoedRounds(n);
            state.play.on(x);
            CHECKS.same("node 1 was not started " + state.name, x.slot(1), NONE);
            CHECKS.yes("there is something to pass to node 1 " + state.name, x.waiting(0, 1) > 0);
            CHECKS.same("slot of node 0 " + state.name, x.slot(0), state.name.equals("at the end") ? 9 : 0);
        }
        EchoedRounds x = new EchoedRounds(n);
        middle(x);
        CHECKS.yes("there is something to pass to node 0", x.waiting(2, 0) > 0 && x.waiting(1, 0) > 0);
    }

    private static void begin(EchoedRounds x) {
        x.start(0, 1);
        x.corrupt(2);
        x.corrupt(3);
    }

    private void middle(EchoedRounds x) {
        for (int v = 0; v < n; v++) {
            if (v != 1 && v != 3) {
                x.start(v, v % 2);
            }
        }
        for (int turn = 0; turn < 2; turn++) {
            for (int v = 0; v < n; v++) {
                for (int w = 0; w < n; w++) {
                    x.pass(v, w, 2);
                }
            }
        }
        x.corrupt(2);
        x.corrupt(3);
        x.tosses(0, 2);
        x.forge(2, 0, 1, 2, 1);
        x.forge(3, 0, 2, 1, 7);
        x.forge(3, 1, 0, 1, 9);
    }

    /** Node 0 has come to slot 9. */
    private void end(EchoedRounds x) {
        for (int v = 2; v < n; v++) {
            x.corrupt(v);
        }
        x.start(0, 1);
        int enough = n == 7 ? 4 : 2;
        int speakers = n == 7 ? 5 : n - 1;
        for (int slot = 0; slot <= 8; slot++) {
            for (int speaker = 0; speaker < speakers; speaker++) {
                for (int liar = 2; liar < 2 + enough; liar++) {
                    x.forge(liar, 0, slot, speaker, 8 + (slot % 3 == 2 ? 3 : 1));
                }
            }
        }
    }

    /** Calls that bring to light what can't be looked at: what was got, tosses, who was started. */
    private void after(EchoedRounds x) {
        x.start(1, 0);
        for (int w = 0; w <= 1; w++) {
            for (int what = 2; what <= 10; what += 4) {
                x.forge(2, w, 2, 2, what);
                x.forge(3, w, 5, 3, what);
                x.forge(2, w, 0, 2, what);
                x.forge(3, w, 8, 0, what);
            }
        }
        for (int v = 0; v < n; v++) {
            x.pass(v, 0, 100);
            x.pass(v, 1, 100);
        }
        x.pass(0, 1, 100);
        x.corrupt(1);
    }

    private void lookAtAnswers(State state) {
        for (Refused one : refused) {
            CHECKS.sentence(one.sentence);
            EchoedRounds x = new EchoedRounds(n);
            state.play.on(x);
            CHECKS.same(one.name + " " + state.name + ", " + n + " nodes", one.call.on(x), one.due);
            CHECKS.same(one.name + " again", one.call.on(x), one.due);
        }
    }

    /** All that is refused at once, and what comes after, beside the same without it. */
    private void lookAtState(State state) {
        CHECKS.sentence("A call that is refused changes nothing");
        Twins twins = new Twins(CHECKS, n);
        for (int from = 0; from < refused.size(); from += AT_ONCE) {
            List<Refused> some = refused.subList(from, Math.min(from + AT_ONCE, refused.size()));
            String what = some.get(0).name + " and others " + state.name + ", " + n + " nodes";
            twins.same(what, x -> {
                state.play.on(x);
                callAll(some, x);
            }, state.play);
            twins.same(what + ", and then others", x -> {
                state.play.on(x);
                callAll(some, x);
                after(x);
            }, x -> {
                state.play.on(x);
                after(x);
            });
        }
    }

    private static void callAll(List<Refused> some, EchoedRounds x) {
        for (Refused one : some) {
            one.call.on(x);
        }
    }
}
