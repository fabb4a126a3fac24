/** The document's terms, third part: going on from slot to slot, and settling. */
public final class GoingOnTest {
    private static final int NONE = EchoedRounds.NONE;
    private static final Checks CHECKS = new Checks();

    public static void main(String[] args) {
        asSoonAsTheRowIsLongEnough();
        onlyWhenStarted();
        fromStepZero();
        fromStepOne();
        fromStepTwo();
        decidesOnce();
        tossZeroAtFirst();
        onlyTheFirstOfTheRow();
        saysTheNewValue();
        slotNine();
        inSlotNine();
        ownMessagesFirst();
        settlesAfterEveryMessage();
        settlesWhenStarted();
        agreement();
        CHECKS.end();
    }

    private static Siege started(int n) {
        Siege siege = new Siege(n);
        siege.rounds.start(0, 0);
        return siege;
    }

    private static void asSoonAsTheRowIsLongEnough() {
        CHECKS.sentence("It GOES ON from slot s as soon as the row of slot s has n - F speakers or more");
        int[] due = {3, 4, 5, 5};
        for (int n = 4; n <= 7; n++) {
            for (int slot = 0; slot <= 8; slot++) {
                Siege siege = started(n).leadTo(slot);
                same("led to the slot", siege.rounds.slot(0), slot);
                for (int k = 1; k <= n; k++) {
                    // From the last speaker down, so that it is their number that counts.
                    int speaker = n - k;
                    int x = slot % 3 == 2 ? siege.rounds.accepted(0, slot - 1, speaker) : 0;
                    siege.accept(slot, speaker, x);
                    same(k + " of " + n + " in slot " + slot, siege.rounds.slot(0), k >= due[n - 4] ? slot + 1 : slot);
                }
            }
        }
    }

    private static void onlyWhenStarted() {
        CHECKS.sentence("A node that was STARTED is in a slot, and its value is what it said there");
        for (int n = 4; n <= 7; n++) {
            for (int slot = 1; slot <= 9; slot++) {
                Siege siege = new Siege(n).leadTo(slot);
                same("not started, in no slot", siege.rounds.slot(0), NONE);
                same("not started, no value", siege.rounds.value(0), NONE);
                same("not started, yet a row", siege.rounds.rowAt(0, slot - 1, n - 1), n - 1);
                siege.rounds.start(0, 1);
                same("started, it goes on at once", siege.rounds.slot(0), slot);
            }
            EchoedRounds x = new EchoedRounds(n);
            x.start(1, 1);
            same("slot of the start", x.slot(1), 0);
            same("value of the start", x.value(1), 1);
            same("said there", x.message(1, 0), 101);
        }
    }

    /** Every number of ones among the first n - F, at the front and at the end. */
    private static void fromStepZero() {
        CHECKS.sentence("from step 0: 1 if more of them are 1 than are 0, else 0");
        for (int n = 4; n <= 7; n++) {
            for (int slot = 0; slot <= 6; slot += 3) {
                for (int v = 0; v <= 1; v++) {
                    int chosen = n == 7 ? 5 : n - 1;
                    for (int held = 0; held <= chosen; held++) {
                        Siege siege = started(n).leadTo(slot);
                        fill(siege, slot, held, v);
                        int ones = v == 1 ? held : chosen - held;
                        same("slot", siege.rounds.slot(0), slot + 1);
                        same(ones + " ones of " + chosen, siege.rounds.value(0), ones > chosen - ones ? 1 : 0);
                    }
                }
            }
        }
    }

    /** n - F speakers, of whom the first so many say v and the others do not. */
    private static void fill(Siege siege, int slot, int held, int v) {
        for (int p = 0; p < siege.chosen(); p++) {
            siege.accept(slot, p, p < held ? v : 1 - v);
        }
    }

    private static void fromStepOne() {
        CHECKS.sentence("from step 1: v + 2 if more than n / 2 of them are v, for v = 0 or 1; otherwise the value that it has");
        int[] majority = {3, 3, 4, 4};
        for (int n = 4; n <= 7; n++) {
            for (int slot = 1; slot <= 7; slot += 3) {
                for (int own = 0; own <= 1; own++) {
                    int chosen = n == 7 ? 5 : n - 1;
                    for (int zeros = 0; zeros <= chosen; zeros++) {
                        Siege siege = started(n).leadTo(slot, own);
                        same("the value that it has", siege.rounds.value(0), own);
                        fill(siege, slot, zeros, 0);
                        int due = zeros >= majority[n - 4] ? 2 : chosen - zeros >= majority[n - 4] ? 3 : own;
                        same("slot", siege.rounds.slot(0), slot + 1);
                        same(zeros + " zeros of " + chosen + ", own " + own, siege.rounds.value(0), due);
                    }
                }
            }
        }
    }

    private static void fromStepTwo() {
        CHECKS.sentence("from step 2: if 2 * F + 1 or more are v + 2: v, and it DECIDES v; otherwise, if F + 1 or more: v; otherwise its toss");
        for (int n = 4; n <= 7; n++) {
            for (int slot = 2; slot <= 8; slot += 3) {
                for (int v = 0; v <= 1; v++) {
                    int chosen = n == 7 ? 5 : n - 1;
                    for (int firm = 0; firm <= chosen; firm++) {
                        lookAtStepTwo(n, slot, v, firm, 0);
                        lookAtStepTwo(n, slot, v, firm, 1);
                    }
                }
            }
        }
    }

    private static void lookAtStepTwo(int n, int slot, int v, int firm, int toss) {
        int[] forValue = {2, 2, 2, 3};
        int[] toDecide = {3, 3, 3, 5};
        Siege siege = started(n).leadToFirm(slot, v);
        // Only the toss of this round is the one that is due.
        int bit = 1 << slot / 3;
        siege.rounds.tosses(0, toss == 1 ? bit : 7 - bit);
        String what = n + " nodes, slot " + slot + ", " + firm + " firm " + v + ", toss " + toss;
        for (int p = 0; p < siege.chosen(); p++) {
            same(what + ": not yet", siege.rounds.slot(0), slot);
            same(what + ": none decided yet", siege.rounds.decided(0), NONE);
            siege.accept(slot, p, p < firm ? v + 2 : siege.leaning(p, v));
        }
        same(what + ": slot", siege.rounds.slot(0), slot + 1);
        same(what + ": value", siege.rounds.value(0), firm >= forValue[n - 4] ? v : toss);
        same(what + ": decided", siege.rounds.decided(0), firm >= toDecide[n - 4] ? v : NONE);
        for (int p = siege.chosen(); p < n; p++) {
            siege.accept(slot, p, v + 2);
        }
        same(what + ": later ones change no decision", siege.rounds.decided(0), firm >= toDecide[n - 4] ? v : NONE);
    }

    /** A decision binds: nothing but v follows after it, so it can't be seen to change. */
    private static void decidesOnce() {
        CHECKS.sentence("it DECIDES v unless it has decided");
        for (int n = 4; n <= 7; n++) {
            for (int v = 0; v <= 1; v++) {
                Siege siege = started(n).leadToFirm(2, v);
                for (int p = 0; p < n; p++) {
                    siege.accept(2, p, p < 2 * siege.liars + 1 ? v + 2 : siege.leaning(p, v));
                }
                same("decided", siege.rounds.decided(0), v);
                siege.accept(3, n - 1, 1 - v);
                no("the other does not follow any more", siege.inRow(3, n - 1));
                for (int slot = 3; slot <= 8; slot++) {
                    fill(siege, slot, slot == 3 ? n - 1 : n, slot % 3 == 2 ? v + 2 : v);
                    same("decided still", siege.rounds.decided(0), v);
                    same("slot", siege.rounds.slot(0), slot + 1);
                }
                same("value", siege.rounds.value(0), v);
            }
        }
    }

    private static void tossZeroAtFirst() {
        CHECKS.sentence("Each node has a TOSS for each round, 0 at first");
        for (int n = 4; n <= 7; n++) {
            for (int round = 0; round <= 2; round++) {
                Siege siege = new Siege(n);
                siege.rounds.start(0, 1);
                siege.leadTo(3 * round + 3);
                same("slot after round " + round, siege.rounds.slot(0), 3 * round + 3);
                same("toss of round " + round, siege.rounds.value(0), 0);
            }
        }
    }

    /** A node that is started late finds whole rows; what is past their first n - F is left out. */
    private static void onlyTheFirstOfTheRow() {
        CHECKS.sentence("with the values of the first n - F of the row");
        for (int v = 0; v <= 1; v++) {
            int w = 1 - v;
            Siege zero = new Siege(7).acceptAll(0, v, v, v, w, w, w, w);
            zero.rounds.start(0, w);
            same("from step 0: three of the first five", zero.rounds.value(0), v);
            Siege one = new Siege(7).leadTo(1, w).acceptAll(1, v, v, v, w, w, v, v);
            one.rounds.start(0, v);
            same("slot", one.rounds.slot(0), 2);
            same("from step 1: three of the first five are no majority", one.rounds.value(0), w);
            Siege two = new Siege(7).leadTo(1).acceptAll(1, v, v, v, w, w, v, v);
            two.acceptAll(2, v + 2, v + 2, v, w, w, v + 2, v + 2);
            two.rounds.tosses(0, w);
            two.rounds.start(0, 0);
            same("slot", two.rounds.slot(0), 3);
            same("from step 2: two firm ones of the first five", two.rounds.value(0), w);
            Siege four = new Siege(7).leadToFirm(2, v);
            four.acceptAll(2, v + 2, v + 2, v + 2, v + 2, w, v + 2, v + 2);
            four.rounds.start(0, 0);
            same("slot", four.rounds.slot(0), 3);
            same("four firm ones of the first five decide nothing", four.rounds.decided(0), NONE);
            same("but give the value", four.rounds.value(0), v);
        }
    }

    private static void saysTheNewValue() {
        CHECKS.sentence("It is in slot s + 1 then and says the new value there: it sends SAYING for that slot, with itself as speaker");
        for (int n = 4; n <= 7; n++) {
            for (int slot = 0; slot <= 7; slot++) {
                Siege siege = started(n).leadTo(slot);
                for (int p = 0; p < n - siege.liars - 1; p++) {
                    siege.accept(slot, p, plainOf(siege, slot, p));
                }
                int before = siege.rounds.sent(0);
                siege.accept(slot, n - 1, plainOf(siege, slot, n - 1));
                int value = siege.rounds.value(0);
                same("slot", siege.rounds.slot(0), slot + 1);
                same("first its READY", siege.rounds.message(0, before) / 10, 100 * slot + 10 * (n - 1) + 2);
                same("then it says the value", siege.rounds.message(0, before + 1), 1000 * (slot + 1) + value);
                same("and echoes it", siege.rounds.message(0, before + 2), 1000 * (slot + 1) + 10 + value);
                same("no more", siege.rounds.sent(0), before + 3);
            }
        }
    }

    private static int plainOf(Siege siege, int slot, int speaker) {
        return slot % 3 == 2 ? siege.rounds.accepted(0, slot - 1, speaker) : speaker % 2;
    }

    private static void slotNine() {
        CHECKS.sentence("From slot 8 it goes on to slot 9, in which nothing is said, and has its new value there");
        for (int n = 4; n <= 7; n++) {
            for (int v = 0; v <= 1; v++) {
                for (int firm = 0; firm <= 1; firm++) {
                    Siege siege = started(n).leadToFirm(8, v);
                    siege.rounds.tosses(0, 4 * (1 - v));
                    for (int p = 0; p < siege.chosen() - 1; p++) {
                        siege.accept(8, p, firm == 1 ? v + 2 : siege.leaning(p, v));
                    }
                    int before = siege.rounds.sent(0);
                    same("slot 8 still", siege.rounds.slot(0), 8);
                    siege.accept(8, n - 1, firm == 1 ? v + 2 : siege.leaning(n - 1, v));
                    same("slot 9", siege.rounds.slot(0), 9);
                    same("its new value", siege.rounds.value(0), firm == 1 ? v : 1 - v);
                    same("what it decided", siege.rounds.decided(0), firm == 1 ? v : NONE);
                    same("its READY is its last", siege.messageLast() / 10, 800 + 10 * (n - 1) + 2);
                    same("nothing is said", siege.rounds.sent(0), before + 1);
                }
            }
        }
    }

    private static void inSlotNine() {
        CHECKS.sentence("From slot 8 it goes on to slot 9: what it still does there");
        for (int n = 4; n <= 7; n++) {
            Siege siege = started(n).leadTo(8);
            for (int p = 0; p < siege.chosen(); p++) {
                siege.accept(8, p, siege.rounds.accepted(0, 7, p));
            }
            int value = siege.rounds.value(0);
            same("slot 9", siege.rounds.slot(0), 9);
            siege.accept(8, n - 1, siege.rounds.accepted(0, 7, n - 1));
            same("its row grows", siege.rounds.rowAt(0, 8, siege.chosen()), n - 1);
            same("it stays there", siege.rounds.slot(0), 9);
            same("with its value", siege.rounds.value(0), value);
            yes("a saying counts", siege.rounds.forge(2, 0, 8, 2, 1));
            same("and is echoed", siege.messageLast(), 8211);
            no("it was started", siege.rounds.start(0, 0));
            yes("it has tosses", siege.rounds.tosses(0, 7));
            same("which change no value", siege.rounds.value(0), value);
        }
    }

    private static void ownMessagesFirst() {
        CHECKS.sentence("1. it gets the oldest message of its own log that it has not got");
        for (int n = 4; n <= 7; n++) {
            Siege siege = new Siege(n).leadTo(2);
            int before = siege.rounds.sent(0);
            siege.rounds.start(0, 0);
            same("slot", siege.rounds.slot(0), 2);
            for (int slot = 0; slot <= 2; slot++) {
                int place = before + 2 * slot;
                same("saying of slot " + slot, siege.rounds.message(0, place) / 10, 100 * slot);
                same("its echo, before it goes on", siege.rounds.message(0, place + 1), siege.rounds.message(0, place) + 10);
            }
            same("no more", siege.rounds.sent(0), before + 6);
            same("none of its own is left", siege.rounds.waiting(0, 0), 0);
        }
    }

    /** In one pass: the READY that fills the row, and what was sent after it. */
    private static void settlesAfterEveryMessage() {
        CHECKS.sentence("A well-behaved node SETTLES after every message that it got");
        EchoedRounds x = new EchoedRounds(4);
        x.corrupt(2);
        x.corrupt(3);
        x.start(0, 1);
        x.start(1, 1);
        for (int w = 0; w <= 1; w++) {
            for (int speaker = 1; speaker <= 2; speaker++) {
                x.forge(2, w, 0, speaker, 8 + 1);
                x.forge(3, w, 0, speaker, 8 + 1);
            }
        }
        x.forge(2, 1, 0, 3, 8 + 1);
        x.forge(3, 1, 0, 3, 8 + 1);
        x.forge(2, 0, 0, 3, 8 + 1);
        same("node 1 has gone on", x.slot(1), 1);
        same("node 0 has not", x.slot(0), 0);
        same("the log of node 1 comes at once", x.pass(1, 0, 100), 7);
        int[] due = {1, 11, 121, 221, 111, 321, 1001, 1011, 1111};
        for (int k = 0; k < due.length; k++) {
            same("message " + k, x.message(0, k), due[k]);
        }
        same("no more", x.sent(0), due.length);
    }

    private static void settlesWhenStarted() {
        CHECKS.sentence("and when it was started: as long as one of these is possible");
        for (int n = 4; n <= 7; n++) {
            Siege siege = new Siege(n).leadTo(9);
            siege.rounds.tosses(0, 5);
            int before = siege.rounds.sent(0);
            siege.rounds.start(0, 1);
            same("through all slots at once", siege.rounds.slot(0), 9);
            same("the toss of the last round", siege.rounds.value(0), 1);
            same("a saying and an echo for each", siege.rounds.sent(0), before + 18);
            same("none of its own is left", siege.rounds.waiting(0, 0), 0);
        }
    }

    /** Without lies and with all told, all come to the value that all had. */
    private static void agreement() {
        CHECKS.sentence("Nodes, some of which may lie, agree on 0 or 1");
        for (int n = 4; n <= 5; n++) {
            for (int x = 0; x <= 1; x++) {
                EchoedRounds rounds = new EchoedRounds(n);
                for (int v = 0; v < n; v++) {
                    rounds.start(v, x);
                }
                for (int turn = 0; turn < 20; turn++) {
                    for (int pair = 0; pair < n * n; pair++) {
                        if (pair / n != pair % n) {
                            rounds.pass(pair / n, pair % n, 100);
                        }
                    }
                }
                for (int v = 0; v < n; v++) {
                    same("agreement of " + n, rounds.decided(v), x);
                    same("slot", rounds.slot(v), 9);
                }
            }
        }
    }

    private static void same(String what, int got, int due) {
        CHECKS.same(what, got, due);
    }

    private static void yes(String what, boolean got) {
        CHECKS.yes(what, got);
    }

    private static void no(String what, boolean got) {
        CHECKS.no(what, got);
    }
}
