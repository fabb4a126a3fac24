/** The document's terms, first part: nodes, messages, which of them count, and what they call for. */
public final class MessageTest {
    private static final int NONE = EchoedRounds.NONE;
    private static final int SAYING = 0;
    private static final int ECHO = 4;
    private static final int READY = 8;
    private static final Checks CHECKS = new Checks();

    // For n = 4, 5, 6 and 7, written out so that no formula of the class is trusted.
    private static final int[] ECHOES_FOR_READY = {3, 4, 4, 5};
    private static final int[] READIES_FOR_READY = {2, 2, 2, 3};
    private static final int[] READIES_TO_ACCEPT = {3, 3, 3, 5};

    public static void main(String[] args) {
        nodesAreNumbered();
        liarsAreRoundedDown();
        wellBehavedUntilCorrupted();
        slotsAndValues();
        logInOrderToAll();
        firstOfEachKind();
        firstOfEachSlotAndSpeaker();
        firstOfOneAndTheSameNode();
        firstFromLogAndForged();
        sayingOnlyFromItsSpeaker();
        sayingIsEchoed();
        echoesCallForReady();
        echoesOfTwoValues();
        noSecondReadyForEchoes();
        readiesCallForReady();
        noSecondReadyForReadies();
        readiesAreAccepted();
        acceptedOnce();
        CHECKS.end();
    }

    private static void nodesAreNumbered() {
        CHECKS.sentence("NODES are numbered 0 .. n - 1, n from 4 to 7");
        for (int n = 4; n <= 7; n++) {
            EchoedRounds x = new EchoedRounds(n);
            same("sent of the node before 0", x.sent(-1), NONE);
            same("sent of node 0", x.sent(0), 0);
            same("sent of the last node of " + n, x.sent(n - 1), 0);
            same("sent of the node after the last of " + n, x.sent(n), NONE);
        }
    }

    /** F + 1 READYs call for another: so many as come before it are F. */
    private static void liarsAreRoundedDown() {
        CHECKS.sentence("F is (n - 1) / 3, rounded down");
        int[] due = {1, 1, 1, 2};
        for (int n = 4; n <= 7; n++) {
            Siege siege = new Siege(n);
            int before = 0;
            for (int liar = 1; liar < n; liar++) {
                siege.rounds.forge(liar, 0, 0, 1, READY);
                before += siege.rounds.sent(0) == 0 ? 1 : 0;
            }
            same("F for " + n, before, due[n - 4]);
        }
    }

    private static void wellBehavedUntilCorrupted() {
        CHECKS.sentence("Each node is WELL-BEHAVED until it is corrupted, ILL-BEHAVED then");
        for (int n = 4; n <= 7; n++) {
            EchoedRounds x = new EchoedRounds(n);
            for (int v = 0; v < n; v++) {
                no("the well-behaved forges", x.forge(v, (v + 1) % n, 0, v, SAYING));
                yes("the well-behaved tosses", x.tosses(v, 7));
            }
            for (int v = 0; v < n - 1; v++) {
                x.corrupt(v);
                yes("the ill-behaved forges", x.forge(v, n - 1, 0, v, SAYING));
                no("the ill-behaved tosses", x.tosses(v, 7));
                yes("the last one is well-behaved still", x.tosses(n - 1, 7));
            }
        }
    }

    private static void slotsAndValues() {
        CHECKS.sentence("SLOTS 0 .. 8; In each slot a node SAYS one VALUE: 0, 1, 2 or 3");
        for (int slot = -2; slot <= 10; slot++) {
            for (int value = 0; value <= 3; value++) {
                Siege siege = new Siege(4);
                boolean isSlot = slot >= 0 && slot <= 8;
                same("saying of slot " + slot, bit(siege.rounds.forge(1, 0, slot, 1, value)), bit(isSlot));
                same("its echo", siege.rounds.message(0, 0), isSlot ? 1000 * slot + 110 + value : NONE);
                same("its vote", siege.rounds.votes(0, slot, 1, value, false), bit(isSlot));
            }
        }
    }

    private static void logInOrderToAll() {
        CHECKS.sentence("Each node has a LOG, the messages that it sent, in order; it sends each to all nodes, itself too");
        EchoedRounds x = new EchoedRounds(5);
        x.start(2, 1);
        x.start(4, 0);
        x.pass(4, 2, 1);
        int[] due = {201, 211, 410};
        for (int k = 0; k < due.length; k++) {
            same("message " + k, x.message(2, k), due[k]);
        }
        same("no more", x.sent(2), due.length);
        for (int w = 0; w < 5; w++) {
            same("sent to node " + w, x.waiting(2, w), w == 2 ? 0 : 3);
            same("got by itself alone", x.votes(w, 0, 2, 1, false), w == 2 ? 1 : 0);
        }
        for (int w : new int[] {0, 1, 3, 4}) {
            same("all of it comes", x.pass(2, w, 100), 3);
            same("first the saying", x.message(w, w == 4 ? 2 : 0), 211);
        }
    }

    private static void firstOfEachKind() {
        CHECKS.sentence("only the first of each kind, slot and speaker counts: kind");
        for (int kind = 0; kind <= 2; kind++) {
            for (int value = 0; value <= 3; value++) {
                for (int later = 0; later <= 3; later++) {
                    EchoedRounds x = new Siege(7).rounds;
                    yes("the first", x.forge(1, 0, 5, 1, 4 * kind + value));
                    no("the second", x.forge(1, 0, 5, 1, 4 * kind + later));
                    same("sent for it", x.sent(0), kind == 0 ? 1 : 0);
                    same("votes for the first", x.votes(0, 5, 1, value, kind == 2), 1);
                    same("votes in all", votesInAll(x, 5, 1, kind == 2), 1);
                    for (int other = 0; other <= 2; other++) {
                        same("one of another kind", bit(x.forge(1, 0, 5, 1, 4 * other + later)), bit(other != kind));
                    }
                }
            }
        }
    }

    private static int votesInAll(EchoedRounds x, int slot, int speaker, boolean ready) {
        int sum = 0;
        for (int value = 0; value <= 3; value++) {
            sum += x.votes(0, slot, speaker, value, ready);
        }
        return sum;
    }

    private static void firstOfEachSlotAndSpeaker() {
        CHECKS.sentence("only the first of each kind, slot and speaker counts: slot, speaker");
        for (int n = 4; n <= 7; n++) {
            for (int kind = ECHO; kind <= READY; kind += 4) {
                EchoedRounds x = new Siege(n).rounds;
                for (int cell = 0; cell < 9 * n; cell++) {
                    yes("the first of slot and speaker", x.forge(1, 0, cell / n, cell % n, kind + 1));
                }
                for (int cell = 0; cell < 9 * n; cell++) {
                    no("the second of slot and speaker", x.forge(1, 0, cell / n, cell % n, kind + 1));
                    same("votes", x.votes(0, cell / n, cell % n, 1, kind == READY), 1);
                }
            }
            EchoedRounds x = new Siege(n).rounds;
            for (int slot = 0; slot < 9; slot++) {
                for (int liar = 1; liar < n; liar++) {
                    yes("the first saying of the slot", x.forge(liar, 0, slot, liar, SAYING + 1));
                    no("the second saying of the slot", x.forge(liar, 0, slot, liar, SAYING + 1));
                }
            }
            same("echoes sent", x.sent(0), 9 * (n - 1));
        }
    }

    private static void firstOfOneAndTheSameNode() {
        CHECKS.sentence("Of the messages that a node gets from one and the same node, only the first");
        for (int n = 4; n <= 7; n++) {
            for (int kind = ECHO; kind <= READY; kind += 4) {
                Siege siege = new Siege(n);
                for (int liar = 1; liar < n; liar++) {
                    yes("the first of node " + liar, siege.rounds.forge(liar, 0, 2, 0, kind + liar % 4));
                    no("the second of node " + liar, siege.rounds.forge(liar, 0, 2, 0, kind + liar % 4));
                }
            }
            EchoedRounds x = new EchoedRounds(n);
            x.corrupt(n - 1);
            for (int w = 0; w < n - 1; w++) {
                yes("to node " + w + " it is the first", x.forge(n - 1, w, 0, n - 1, SAYING + w % 4));
                same("each echoes what it got", x.message(w, 0), 100 * (n - 1) + 10 + w % 4);
            }
        }
    }

    private static void firstFromLogAndForged() {
        CHECKS.sentence("only the first of each kind, slot and speaker counts: a liar's log and its forgeries");
        EchoedRounds x = new EchoedRounds(4);
        x.start(1, 1);
        x.corrupt(1);
        yes("forged saying before the log", x.forge(1, 0, 0, 1, SAYING));
        same("the log comes in full", x.pass(1, 0, 100), 2);
        same("its saying is not echoed", x.sent(0), 1);
        same("the forged one was", x.message(0, 0), 110);
        same("its echo counts", x.votes(0, 0, 1, 1, false), 1);
        yes("forged echo before the log", x.forge(1, 3, 0, 1, ECHO));
        same("the log comes in full", x.pass(1, 3, 100), 2);
        same("the echo of the log does not count", x.votes(3, 0, 1, 1, false), 1);
        same("but the own one", x.message(3, 0), 111);
        same("and the forged one", x.votes(3, 0, 1, 0, false), 1);
        same("the log first", x.pass(1, 2, 100), 2);
        no("then the forged saying", x.forge(1, 2, 0, 1, SAYING));
        no("then the forged echo", x.forge(1, 2, 0, 1, ECHO));
        yes("then a READY", x.forge(1, 2, 0, 1, READY));
        same("votes for the log's value", x.votes(2, 0, 1, 1, false), 2);
        same("votes for the other value", x.votes(2, 0, 1, 0, false), 0);
    }

    private static void sayingOnlyFromItsSpeaker() {
        CHECKS.sentence("a SAYING counts only if it comes from its speaker");
        for (int n = 4; n <= 7; n++) {
            for (int speaker = 0; speaker < n; speaker++) {
                EchoedRounds x = new Siege(n).rounds;
                for (int liar = 1; liar < n; liar++) {
                    if (liar != speaker) {
                        no("saying of " + speaker + " from " + liar, x.forge(liar, 0, 4, speaker, SAYING + 3));
                        yes("an echo may come from any", x.forge(liar, 0, 3, speaker, ECHO + liar % 4));
                        yes("a READY may come from any", x.forge(liar, 0, 3, speaker, READY + liar % 4));
                    }
                }
                int before = x.sent(0);
                same("what does not count is not echoed", x.votes(0, 4, speaker, 3, false), 0);
                if (speaker != 0) {
                    yes("its own saying is the first", x.forge(speaker, 0, 4, speaker, SAYING + 2));
                    same("and is echoed", x.message(0, before), 4000 + 100 * speaker + 12);
                }
            }
        }
        EchoedRounds own = new Siege(4).rounds;
        no("a saying of the node itself from a liar", own.forge(1, 0, 0, 0, SAYING + 1));
        own.start(0, 0);
        same("its own saying is echoed", own.message(0, 1), 10);
    }

    private static void sayingIsEchoed() {
        CHECKS.sentence("SAYING: it sends ECHO (s, p, x)");
        for (int n = 4; n <= 7; n++) {
            for (int value = 0; value <= 3; value++) {
                EchoedRounds x = new Siege(n).rounds;
                int sent = 0;
                for (int slot = 0; slot <= 8; slot++) {
                    for (int liar = 1; liar < n; liar++) {
                        x.forge(liar, 0, slot, liar, SAYING + value);
                        same("echo", x.message(0, sent), 1000 * slot + 100 * liar + 10 + value);
                        sent++;
                        same("one each", x.sent(0), sent);
                    }
                }
                same("in no slot, not started", x.slot(0), NONE);
            }
        }
    }

    private static void echoesCallForReady() {
        CHECKS.sentence("when it has got ECHO (s, p, x) from (n + F) / 2 + 1 nodes or more");
        for (int n = 4; n <= 7; n++) {
            int due = ECHOES_FOR_READY[n - 4];
            for (int x = 0; x <= 3; x++) {
                Siege siege = new Siege(n);
                for (int k = 1; k < n; k++) {
                    yes("the echo counts", siege.rounds.forge(k, 0, 6, 2, ECHO + x));
                    same("sent at echo " + k + " of " + n, siege.rounds.sent(0), k >= due ? 1 : 0);
                }
                same("READY for the echoes", siege.rounds.message(0, 0), 6220 + x);
                same("it gets its own READY", siege.rounds.votes(0, 6, 2, x, true), 1);
            }
            Siege own = new Siege(n);
            own.rounds.start(0, 1);
            for (int k = 1; k < due; k++) {
                same("no READY at " + k + " echoes of " + n, own.rounds.sent(0), 2);
                own.rounds.forge(k, 0, 0, 0, ECHO + 1);
            }
            same("its own echo is one of them", own.rounds.message(0, 2), 21);
        }
    }

    private static void echoesOfTwoValues() {
        CHECKS.sentence("ECHO (s, p, x): of one value, slot and speaker alone");
        for (int n = 4; n <= 7; n++) {
            Siege siege = new Siege(n);
            int enough = ECHOES_FOR_READY[n - 4];
            for (int k = 1; k < n; k++) {
                boolean last = k == enough;
                siege.rounds.forge(k, 0, 6, 2, ECHO + (last ? 0 : 1));
                siege.rounds.forge(k, 0, last ? 4 : 5, 2, ECHO);
                siege.rounds.forge(k, 0, 7, last ? 3 : 2, ECHO);
                if (k == enough) {
                    same("one below, and one that differs, of " + n, siege.rounds.sent(0), 0);
                }
            }
        }
    }

    private static void noSecondReadyForEchoes() {
        CHECKS.sentence("and has sent no READY for s and p, it sends READY (s, p, x): for echoes");
        for (int n = 4; n <= 7; n++) {
            Siege siege = new Siege(n);
            for (int k = 1; k <= READIES_FOR_READY[n - 4]; k++) {
                siege.rounds.forge(k, 0, 1, 3, READY);
            }
            same("READY for the READYs", siege.rounds.message(0, 0), 1320);
            for (int k = 1; k < n; k++) {
                siege.rounds.forge(k, 0, 1, 3, ECHO + 1);
                siege.rounds.forge(k, 0, 1, 2, ECHO + 1);
            }
            same("none for the echoes of another value", siege.rounds.message(0, 1), 1221);
            same("the only one is for another speaker", siege.rounds.sent(0), 2);
        }
    }

    private static void readiesCallForReady() {
        CHECKS.sentence("READY: when it has got READY (s, p, x) from F + 1 nodes or more");
        for (int n = 4; n <= 7; n++) {
            int due = READIES_FOR_READY[n - 4];
            for (int x = 0; x <= 3; x++) {
                Siege siege = new Siege(n);
                for (int k = 1; k < n; k++) {
                    yes("the READY counts", siege.rounds.forge(k, 0, 8, n - 1, READY + x));
                    same("sent at READY " + k + " of " + n, siege.rounds.sent(0), k >= due ? 1 : 0);
                }
                same("READY for the READYs", siege.rounds.message(0, 0), 8000 + 100 * (n - 1) + 20 + x);
                same("its own is one more", siege.rounds.votes(0, 8, n - 1, x, true), n);
            }
            Siege split = new Siege(n);
            for (int k = 1; k < due; k++) {
                split.rounds.forge(k, 0, 3, 1, READY + 1);
                split.rounds.forge(k, 0, 3, 2, READY + 1);
                split.rounds.forge(k, 0, 4, 1, READY + 1);
            }
            split.rounds.forge(due, 0, 3, 1, READY);
            same("one below, and one of another value", split.rounds.sent(0), 0);
        }
    }

    private static void noSecondReadyForReadies() {
        CHECKS.sentence("and has sent no READY for s and p, it sends READY (s, p, x): for READYs");
        for (int n = 4; n <= 7; n++) {
            Siege siege = new Siege(n);
            for (int k = 1; k <= ECHOES_FOR_READY[n - 4]; k++) {
                siege.rounds.forge(k, 0, 1, 3, ECHO + 1);
            }
            same("READY for the echoes", siege.rounds.message(0, 0), 1321);
            for (int k = 1; k < n; k++) {
                siege.rounds.forge(k, 0, 1, 3, READY);
            }
            same("none for READYs of another value", siege.rounds.sent(0), 1);
            same("its own was for 1", siege.rounds.votes(0, 1, 3, 1, true), 1);
            same("the others for 0", siege.rounds.votes(0, 1, 3, 0, true), n - 1);
        }
    }

    private static void readiesAreAccepted() {
        CHECKS.sentence("when it has got it from 2 * F + 1 nodes or more and has ACCEPTED no value for s and p, it accepts x");
        for (int n = 4; n <= 7; n++) {
            int due = READIES_TO_ACCEPT[n - 4];
            for (int x = 0; x <= 3; x++) {
                Siege siege = new Siege(n);
                for (int k = 1; k < due; k++) {
                    same("one below, with its own, of " + n, siege.rounds.accepted(0, 3, 1), NONE);
                    siege.rounds.forge(k, 0, 3, 1, READY + x);
                }
                same("just there, with its own, of " + n, siege.rounds.accepted(0, 3, 1), x);
                same("another speaker", siege.rounds.accepted(0, 3, 2), NONE);
                same("another slot", siege.rounds.accepted(0, 4, 1), NONE);
            }
            Siege without = new Siege(n);
            for (int k = 1; k <= ECHOES_FOR_READY[n - 4]; k++) {
                without.rounds.forge(k, 0, 3, 1, ECHO + 3);
            }
            for (int k = 1; k <= due && k < n; k++) {
                same("one below, without its own, of " + n, without.rounds.accepted(0, 3, 1), NONE);
                without.rounds.forge(k, 0, 3, 1, READY + 2);
            }
            same("just there, without its own, of " + n, without.rounds.accepted(0, 3, 1), 2);
        }
    }

    private static void acceptedOnce() {
        CHECKS.sentence("and has ACCEPTED no value for s and p");
        // Of six nodes three are enough, so that two values can come so far; of others none.
        Siege siege = new Siege(6);
        siege.rounds.forge(1, 0, 0, 1, READY + 1);
        siege.rounds.forge(2, 0, 0, 1, READY + 1);
        same("three READYs for 1", siege.rounds.votes(0, 0, 1, 1, true), 3);
        for (int liar = 3; liar <= 5; liar++) {
            siege.rounds.forge(liar, 0, 0, 1, READY);
        }
        same("three READYs for 0", siege.rounds.votes(0, 0, 1, 0, true), 3);
        same("the first acceptance stays", siege.rounds.accepted(0, 0, 1), 1);
        same("the speaker is in the row", siege.rounds.rowAt(0, 0, 0), 1);
        same("once", siege.rounds.rowAt(0, 0, 1), NONE);
    }

    private static int bit(boolean answer) {
        return answer ? 1 : 0;
    }

    private static void same(String what, int got, int due) {
        CHECKS.same(what, got, due);
    }

    private static void yes(String what, boolean got) {
        CHECKS.yes(what, got);
    }

    private static void no(String what, boolean got) {
        CHECKS.no(what, got);
    }
}
