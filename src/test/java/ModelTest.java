import java.util.Random;

/**
 * Long runs of drawn calls, the same at each run of the test, on the class and on PlainModel. A
 * run stays within the 512 calls for which the document speaks.
 */
public final class ModelTest {
    private static final int CALLS = 512;
    private static final int RUNS = 6000;

    private static final Checks CHECKS = new Checks();

    private final Random draw;
    private final EchoedRounds real;
    private final PlainModel model;
    private final int run;
    private final int nodes;
    private final int lean;
    private int calls = 0;
    private int victim = 0;
    private int sweep = 0;

    private ModelTest(int run) {
        this.run = run;
        draw = new Random(1000003L * run + 17);
        int asked = draw.nextInt(8) == 0 ? draw.nextInt(40) - 20 : 4 + draw.nextInt(4);
        real = new EchoedRounds(asked);
        model = new PlainModel(asked);
        nodes = Math.max(4, Math.min(7, asked));
        lean = draw.nextInt(3);
    }

    public static void main(String[] args) {
        int decisions = 0;
        int tossed = 0;
        int finished = 0;
        for (int run = 0; run < RUNS && CHECKS.wrong() < 20; run++) {
            ModelTest test = new ModelTest(run);
            test.play();
            decisions += test.model.decisions;
            tossed += test.model.tossed;
            finished += test.model.finished;
        }
        System.out.println(decisions + " decisions, " + tossed + " tosses used, " + finished + " nodes in slot 9");
        CHECKS.yes("the runs come to decisions", decisions > 500);
        CHECKS.yes("the runs come to tosses", tossed > 500);
        CHECKS.yes("the runs come to slot 9", finished > 500);
        CHECKS.end();
    }

    private void play() {
        switch (run % 4) {
            case 0 -> playHonest();
            case 1 -> playBesieged();
            case 2 -> playFewLiars();
            default -> playAnything();
        }
        while (calls < CALLS) {
            look();
        }
    }

    /** All are started and told everything, in drawn order. */
    private void playHonest() {
        setUp(0);
        while (calls < CALLS - 60) {
            passOn();
            if (draw.nextInt(12) == 0) {
                look();
            }
        }
    }

    /** All nodes but one or two are liars and lead the others through the slots. */
    private void playBesieged() {
        int honest = 1 + draw.nextInt(2);
        setUp(nodes - honest);
        while (calls < CALLS - 40) {
            besiege();
            if (draw.nextInt(3) == 0) {
                look();
            }
        }
    }

    /** So many liars as the thresholds bear, or one more. */
    private void playFewLiars() {
        setUp((nodes - 1) / 3 + draw.nextInt(2));
        while (calls < CALLS - 60) {
            if (draw.nextInt(4) == 0) {
                forgeNear(draw.nextInt(nodes), draw.nextInt(nodes));
            } else {
                passOn();
            }
            if (draw.nextInt(12) == 0) {
                look();
            }
        }
    }

    /** Any call with any arguments, wrong ones too. */
    private void playAnything() {
        while (calls < CALLS - 100) {
            int kind = draw.nextInt(20);
            if (kind == 0) {
                corrupt(anyNode());
            } else if (kind == 1) {
                tosses(anyNode(), draw.nextInt());
            } else if (kind == 2) {
                start(anyNode(), draw.nextInt(4) - 1);
            } else if (kind < 9) {
                pass(anyNode(), anyNode(), draw.nextInt(8) == 0 ? draw.nextInt(300) - 100 : 1 + draw.nextInt(100));
            } else if (kind < 14) {
                forge(anyNode(), anyNode(), draw.nextInt(12) - 1, anyNode(), draw.nextInt(15) - 1);
            } else {
                look();
            }
        }
    }

    private int anyNode() {
        return draw.nextInt(12) == 0 ? draw.nextInt(30) - 10 : draw.nextInt(nodes);
    }

    private void setUp(int liars) {
        for (int v = 0; v < nodes; v++) {
            if (draw.nextInt(2) == 0) {
                tosses(v, draw.nextInt());
            }
            if (draw.nextInt(10) != 0) {
                start(v, lean < 2 && draw.nextInt(5) != 0 ? lean : draw.nextInt(2));
            }
        }
        int first = draw.nextInt(nodes);
        for (int k = 0; k < liars; k++) {
            corrupt((first + k) % nodes);
        }
    }

    private void passOn() {
        int pair = sweep++ % (nodes * nodes);
        boolean inOrder = draw.nextInt(10) != 0;
        int from = inOrder ? pair / nodes : draw.nextInt(nodes);
        int to = inOrder ? pair % nodes : draw.nextInt(nodes);
        if (model.waiting(from, to) > 0 || draw.nextInt(20) == 0) {
            pass(from, to, draw.nextInt(5) == 0 ? 1 + draw.nextInt(4) : 100);
        } else {
            look();
        }
    }

    /** Liars send the READYs for one value of one speaker to a well-behaved node. */
    private void besiege() {
        if (draw.nextInt(30) == 0) {
            victim++;
        }
        for (int k = 0; k < nodes && !model.well(victim % nodes); k++) {
            victim++;
        }
        int target = victim % nodes;
        int slot = slotFor(target);
        int speaker = draw.nextInt(nodes);
        for (int k = 0; k < nodes && model.accepted(target, slot, speaker) != PlainModel.NONE; k++) {
            speaker = (speaker + 1) % nodes;
        }
        int x = draw.nextInt(20) == 0 ? draw.nextInt(4) : drawnFor(target, slot, speaker);
        for (int liar = 0; liar < nodes && calls < CALLS; liar++) {
            if (!model.well(liar) && model.accepted(target, slot, speaker) == PlainModel.NONE) {
                forge(liar, target, slot, speaker, 8 + x);
            }
        }
    }

    private int slotFor(int target) {
        int last = Math.max(0, Math.min(8, model.slot(target)));
        if (lean == 2 && draw.nextInt(20) != 0) {
            for (int s = 0; s < last; s++) {
                for (int p = 0; p < nodes; p++) {
                    if (model.accepted(target, s, p) == PlainModel.NONE) {
                        return s;
                    }
                }
            }
            return last;
        }
        return Math.max(0, Math.min(8, last + (draw.nextInt(6) == 0 ? draw.nextInt(3) - 1 : 0)));
    }

    /** With lean 2 the rows are filled and the nodes kept divided, so that tosses are needed. */
    private int drawnFor(int target, int slot, int speaker) {
        if (lean < 2) {
            int leaning = draw.nextInt(3) != 0 ? lean : draw.nextInt(2);
            return slot % 3 == 2 && draw.nextInt(4) != 0 ? 2 + leaning : leaning;
        }
        if (slot % 3 == 2) {
            return draw.nextInt(6) == 0 ? draw.nextInt(4) : Math.max(0, model.accepted(target, slot - 1, speaker));
        }
        return draw.nextInt(6) == 0 ? draw.nextInt(2) : speaker % 2;
    }

    private void forgeNear(int liar, int target) {
        int slot = Math.max(0, Math.min(8, model.slot(target) + draw.nextInt(3) - 1));
        int speaker = draw.nextInt(3) == 0 ? liar : draw.nextInt(nodes);
        forge(liar, target, slot, speaker, draw.nextInt(12));
    }

    private void corrupt(int v) {
        calls++;
        same("corrupt(" + v + ")", bit(real.corrupt(v)), bit(model.corrupt(v)));
    }

    private void tosses(int v, int bits) {
        calls++;
        same("tosses(" + v + ", " + bits + ")", bit(real.tosses(v, bits)), bit(model.tosses(v, bits)));
    }

    private void start(int v, int x) {
        calls++;
        same("start(" + v + ", " + x + ")", bit(real.start(v, x)), bit(model.start(v, x)));
    }

    private void pass(int v, int w, int n) {
        calls++;
        same("pass(" + v + ", " + w + ", " + n + ")", real.pass(v, w, n), model.pass(v, w, n));
    }

    private void forge(int v, int w, int slot, int speaker, int what) {
        calls++;
        same("forge(" + v + ", " + w + ", " + slot + ", " + speaker + ", " + what + ")",
            bit(real.forge(v, w, slot, speaker, what)), bit(model.forge(v, w, slot, speaker, what)));
    }

    /** One call that changes nothing, most often with arguments in range. */
    private void look() {
        calls++;
        int v = anyNode();
        int w = anyNode();
        int s = draw.nextInt(3) == 0 ? draw.nextInt(11) - 1 : model.slot(v) - draw.nextInt(3);
        int k = draw.nextInt(9) - 1;
        int x = draw.nextInt(6) - 1;
        boolean ready = draw.nextBoolean();
        String at = "(" + v + ", " + s + ", " + w + ", " + k + ", " + x + ", " + ready + ")";
        switch (draw.nextInt(9)) {
            case 0 -> same("sent" + at, real.sent(v), model.sent(v));
            case 1 -> {
                int place = draw.nextInt(model.sent(v) + 3) - 1;
                same("message" + at + place, real.message(v, place), model.message(v, place));
            }
            case 2 -> same("waiting" + at, real.waiting(v, w), model.waiting(v, w));
            case 3 -> same("votes" + at, real.votes(v, s, w, x, ready), model.votes(v, s, w, x, ready));
            case 4 -> same("accepted" + at, real.accepted(v, s, w), model.accepted(v, s, w));
            case 5 -> same("rowAt" + at, real.rowAt(v, s, k), model.rowAt(v, s, k));
            case 6 -> same("slot" + at, real.slot(v), model.slot(v));
            case 7 -> same("value" + at, real.value(v), model.value(v));
            default -> same("decided" + at, real.decided(v), model.decided(v));
        }
    }

    private static int bit(boolean answer) {
        return answer ? 1 : 0;
    }

    private void same(String call, int got, int due) {
        CHECKS.same("run " + run + ", call " + calls + ": " + call, got, due);
    }
}
