/** The promises 1 to 15, sentence by sentence; what they refuse is in RefusalTest. */
public final class PromiseTest {
    private static final int NONE = EchoedRounds.NONE;
    private static final int SAYING = 0;
    private static final int ECHO = 4;
    private static final int READY = 8;
    private static final Checks CHECKS = new Checks();

    public static void main(String[] args) {
        newObject();
        newObjectIsEmpty();
        corruptDoesNothingAnyMore();
        corruptStays();
        corruptAll();
        tossesLowestThreeBits();
        tossesOfOneNode();
        tossesLater();
        startSaysAndSettles();
        startLate();
        startAll();
        passOldestOfThere();
        passFewer();
        passSentMeanwhile();
        passOneToHundred();
        passWhatDoesNotCount();
        passFromTheIllBehaved();
        forgeKindAndValue();
        forgeSlotsAndSpeakers();
        forgeIsInNoLog();
        forgeSettles();
        forgeAnswersWhetherItCounts();
        fullLog();
        callsWithinTheLimit();
        callsPastTheLimit();
        CHECKS.end();
    }

    private static void newObject() {
        CHECKS.sentence("1: So many nodes, four when nodes is below 4, seven when it is above 7");
        int[][] asked = {{4, 4}, {5, 5}, {6, 6}, {7, 7}, {3, 4}, {2, 4}, {1, 4}, {0, 4}, {-1, 4}, {-4, 4}, {-5, 4},
            {8, 7}, {9, 7}, {12, 7}, {256, 7}, {260, 7}, {1 << 16, 7}, {-(1 << 16), 4},
            {Integer.MIN_VALUE, 4}, {Integer.MIN_VALUE + 5, 4}, {Integer.MAX_VALUE, 7}};
        for (int[] pair : asked) {
            EchoedRounds x = new EchoedRounds(pair[0]);
            for (int v = -2; v <= 9; v++) {
                boolean isNode = v >= 0 && v < pair[1];
                same("sent(" + v + ") with nodes " + pair[0], x.sent(v), isNode ? 0 : NONE);
                same("tosses(" + v + ", 0) with nodes " + pair[0], bit(x.tosses(v, 0)), bit(isNode));
            }
            for (int v = -2; v <= 9; v++) {
                same("start(" + v + ", 0) with nodes " + pair[0], bit(x.start(v, 0)), bit(v >= 0 && v < pair[1]));
            }
        }
        // The number shows in the thresholds too: two READYs call for another of four, not of seven.
        for (int nodes : new int[] {3, 4, 7, 8}) {
            EchoedRounds x = new EchoedRounds(nodes);
            for (int liar = 1; liar <= 2; liar++) {
                x.corrupt(liar);
                x.forge(liar, 0, 0, 0, READY);
            }
            same("READYs sent with nodes " + nodes, x.sent(0), nodes <= 4 ? 1 : 0);
        }
    }

    private static void newObjectIsEmpty() {
        CHECKS.sentence("1: all well-behaved, none started, all logs empty");
        for (int n = 4; n <= 7; n++) {
            EchoedRounds x = new EchoedRounds(n);
            for (int v = 0; v < n; v++) {
                same("log", x.sent(v), 0);
                same("message", x.message(v, 0), NONE);
                same("slot", x.slot(v), NONE);
                same("value", x.value(v), NONE);
                same("decided", x.decided(v), NONE);
                for (int w = 0; w < n; w++) {
                    same("waiting", x.waiting(v, w), 0);
                    same("accepted", x.accepted(v, 8, w), NONE);
                    same("votes", x.votes(v, 0, w, 0, true), 0);
                }
                no("well-behaved: it can't forge", x.forge(v, (v + 1) % n, 0, v, SAYING));
                yes("well-behaved: it can be corrupted", x.corrupt(v));
            }
        }
    }

    private static void corruptDoesNothingAnyMore() {
        CHECKS.sentence("2: Node v becomes ill-behaved: it does nothing any more. Answers true");
        for (int n = 4; n <= 7; n++) {
            EchoedRounds x = new EchoedRounds(n);
            x.start(2, 1);
            x.start(3, 1);
            x.pass(3, 2, 1);
            yes("corrupt", x.corrupt(2));
            same("it gets nothing", x.pass(3, 2, 1), NONE);
            same("so it waits", x.waiting(3, 2), 1);
            no("nothing forged either", x.corrupt(0) && x.forge(0, 2, 0, 0, SAYING));
            no("it can't be started again", x.start(2, 0));
            no("it has no tosses", x.tosses(2, 1));
            same("its log is no longer", x.sent(2), 3);
            yes("it may forge", x.forge(2, 3, 5, 2, SAYING));
            no("the others may not", x.forge(3, 1, 5, 3, SAYING));
            yes("one that was not started", x.corrupt(1));
            no("is not started any more", x.start(1, 1));
            same("and is in no slot", x.slot(1), NONE);
        }
    }

    private static void corruptStays() {
        CHECKS.sentence("2: its log and all else of it stay");
        for (int n = 4; n <= 7; n++) {
            Twins twins = new Twins(CHECKS, n);
            for (int v = 0; v < n; v++) {
                int ill = v;
                twins.same("corrupt(" + v + ")", PromiseTest::someCalls, x -> {
                    someCalls(x);
                    x.corrupt(ill);
                });
            }
            Siege siege = new Siege(n);
            siege.rounds.start(0, 0);
            siege.leadTo(9);
            int sent = siege.rounds.sent(0);
            siege.rounds.corrupt(0);
            same("log", siege.rounds.sent(0), sent);
            same("slot", siege.rounds.slot(0), 9);
            same("value", siege.rounds.value(0), 0);
            same("accepted", siege.rounds.accepted(0, 8, n - 1), n == 6 ? 0 : 1);
            same("row", siege.rounds.rowAt(0, 8, n - 1), n - 1);
            same("votes", siege.rounds.votes(0, 8, 0, 0, true), 2 * siege.liars + 1);
        }
    }

    private static void someCalls(EchoedRounds x) {
        for (int v = 0; v < 4; v++) {
            x.start(v, v == 3 ? 0 : 1);
        }
        for (int turn = 0; turn < 3; turn++) {
            for (int pair = 0; pair < 49; pair++) {
                x.pass(pair / 7, pair % 7, 9);
            }
        }
    }

    private static void corruptAll() {
        CHECKS.sentence("2: v is a node and well-behaved: any, and all of them");
        for (int n = 4; n <= 7; n++) {
            EchoedRounds x = new EchoedRounds(n);
            for (int v = 0; v < n; v++) {
                yes("corrupt", x.corrupt(v));
                no("corrupt again", x.corrupt(v));
            }
            no("none is left to forge to", x.forge(0, 1, 0, 0, SAYING));
            same("none is left to pass to", x.pass(0, 1, 1), NONE);
        }
    }

    private static void tossesLowestThreeBits() {
        CHECKS.sentence("3: The tosses of node v become the lowest three bits of bits, that of round r bit r. Answers true");
        int[] drawn = {0, 1, 2, 3, 4, 5, 6, 7, 8, 9, 16, 0x7ffffff8, 255, -1, -2, -3, -5, -8, -9,
            Integer.MIN_VALUE, Integer.MIN_VALUE + 5, Integer.MAX_VALUE};
        for (int n = 4; n <= 7; n++) {
            for (int bits : drawn) {
                for (int round = 0; round <= 2; round++) {
                    Siege siege = new Siege(n);
                    yes("any bits", siege.rounds.tosses(0, bits));
                    siege.rounds.start(0, 1);
                    siege.leadTo(3 * round + 3);
                    same("slot", siege.rounds.slot(0), 3 * round + 3);
                    same("bit " + round + " of " + bits, siege.rounds.value(0), bits >> round & 1);
                }
            }
        }
    }

    private static void tossesOfOneNode() {
        CHECKS.sentence("3: The tosses of node v");
        for (int n = 4; n <= 7; n++) {
            yes("the last node has its own", new EchoedRounds(n).tosses(n - 1, 7));
            Siege siege = new Siege(n);
            siege.rounds.start(0, 1);
            no("of the ill-behaved none", siege.rounds.tosses(1, 7));
            siege.leadTo(3);
            same("the toss of node 0 is 0 still", siege.rounds.value(0), 0);
        }
        // Two well-behaved nodes of four, both led through a divided round.
        for (int tossing = 0; tossing <= 1; tossing++) {
            EchoedRounds x = new EchoedRounds(4);
            x.corrupt(2);
            x.corrupt(3);
            x.tosses(tossing, 1);
            x.start(0, 0);
            x.start(1, 0);
            for (int k = 0; k < 48; k++) {
                int speaker = k / 4 % 4;
                x.forge(2 + k % 2, k / 2 % 2, k / 16, speaker, READY + speaker % 2);
            }
            same("slot of node 0", x.slot(0), 3);
            same("slot of node 1", x.slot(1), 3);
            same("toss of node 0", x.value(0), tossing == 0 ? 1 : 0);
            same("toss of node 1", x.value(1), tossing == 1 ? 1 : 0);
        }
    }

    private static void tossesLater() {
        CHECKS.sentence("3: The tosses of node v become: whenever it is called");
        Siege siege = new Siege(4);
        siege.rounds.start(0, 1);
        siege.leadTo(2);
        siege.rounds.tosses(0, 1);
        siege.acceptAll(2, 0, 1, 0, 1);
        same("just before the toss", siege.rounds.value(0), 1);
        siege.rounds.tosses(0, 0);
        same("a toss past is past", siege.rounds.value(0), 1);
        siege.rounds.tosses(0, 7);
        siege.rounds.tosses(0, 5);
        for (int slot = 3; slot <= 5; slot++) {
            siege.acceptAll(slot, 0, 1, 0, 1);
        }
        same("slot", siege.rounds.slot(0), 6);
        same("the last call holds, and in full", siege.rounds.value(0), 0);
    }

    private static void startSaysAndSettles() {
        CHECKS.sentence("4: Node v is started: it is in slot 0 with the value x and says it; then it settles. Answers true");
        for (int n = 4; n <= 7; n++) {
            for (int v = 0; v < n; v++) {
                for (int value = 0; value <= 1; value++) {
                    EchoedRounds x = new EchoedRounds(n);
                    yes("start", x.start(v, value));
                    same("slot", x.slot(v), 0);
                    same("value", x.value(v), value);
                    same("it says and echoes", x.sent(v), 2);
                    same("saying", x.message(v, 0), 100 * v + value);
                    same("echo", x.message(v, 1), 100 * v + 10 + value);
                    same("its own echo is got", x.votes(v, 0, v, value, false), 1);
                    same("nothing of its own waits", x.waiting(v, v), 0);
                    same("none decided", x.decided(v), NONE);
                    no("it was started", x.start(v, value));
                    no("it was started, with the other value", x.start(v, 1 - value));
                    same("its value stays", x.value(v), value);
                }
            }
        }
    }

    private static void startLate() {
        CHECKS.sentence("4: then it settles: with all that it got before");
        for (int n = 4; n <= 7; n++) {
            Siege siege = new Siege(n);
            for (int speaker = 0; speaker < n; speaker++) {
                siege.accept(0, speaker, 1).accept(1, speaker, 1);
            }
            int before = siege.rounds.sent(0);
            same("not started, in no slot", siege.rounds.slot(0), NONE);
            yes("start late", siege.rounds.start(0, 0));
            same("goes on at once", siege.rounds.slot(0), 2);
            same("value of slot 2", siege.rounds.value(0), 3);
            int[] due = {0, 10, 1001, 1011, 2003, 2013};
            for (int k = 0; k < due.length; k++) {
                same("message " + k, siege.rounds.message(0, before + k), due[k]);
            }
            same("no more", siege.rounds.sent(0), before + due.length);
        }
    }

    private static void startAll() {
        CHECKS.sentence("4: Refused: was started: that one alone");
        for (int n = 4; n <= 7; n++) {
            EchoedRounds x = new EchoedRounds(n);
            for (int v = n - 1; v >= 0; v--) {
                yes("start", x.start(v, v % 2));
            }
            for (int v = 0; v < n; v++) {
                same("value", x.value(v), v % 2);
                same("each says its own", x.message(v, 0), 100 * v + v % 2);
            }
        }
    }

    private static void passOldestOfThere() {
        CHECKS.sentence("5: Node w gets the oldest n messages of the log of node v that it has not got from there");
        EchoedRounds x = new EchoedRounds(4);
        x.start(0, 1);
        x.start(2, 0);
        same("one", x.pass(0, 1, 1), 1);
        same("the oldest: the saying", x.message(1, 0), 11);
        same("not yet the echo: its own alone", x.votes(1, 0, 0, 1, false), 1);
        same("one is left", x.waiting(0, 1), 1);
        same("the other log is not touched", x.waiting(2, 1), 2);
        same("nor does another node get it", x.waiting(0, 3), 2);
        same("the next one", x.pass(0, 1, 1), 1);
        same("the echo", x.votes(1, 0, 0, 1, false), 2);
        same("two of the other log", x.pass(2, 1, 2), 2);
        same("votes for node 2", x.votes(1, 0, 2, 0, false), 2);
        same("echoed", x.message(1, 1), 210);
        same("the log stays with its node", x.sent(0), 2);
    }

    private static void passFewer() {
        CHECKS.sentence("5: fewer when there are not so many. Answers how many those were");
        EchoedRounds x = new EchoedRounds(5);
        same("none in an empty log", x.pass(0, 1, 1), 0);
        same("none in an empty log, of many", x.pass(0, 1, 100), 0);
        x.start(0, 1);
        same("two, of three", x.pass(0, 1, 3), 2);
        same("none left", x.pass(0, 1, 1), 0);
        same("two, of two", x.pass(0, 2, 2), 2);
        same("one, of one", x.pass(0, 3, 1), 1);
        same("one left, of a hundred", x.pass(0, 3, 100), 1);
        same("none left, of a hundred", x.pass(0, 3, 100), 0);
    }

    /** The log of v can't grow while w gets from it; but what was sent since an earlier pass counts. */
    private static void passSentMeanwhile() {
        CHECKS.sentence("5: those that are sent meanwhile count too");
        EchoedRounds x = new EchoedRounds(4);
        for (int v = 0; v < 4; v++) {
            x.start(v, 1);
        }
        same("all that node 0 has", x.pass(0, 1, 100), 2);
        same("its echo comes back", x.pass(1, 0, 100), 3);
        same("node 0 sent one since", x.pass(0, 1, 100), 1);
        same("what node 1 sent for it", x.message(1, 2), 11);
        x.pass(0, 2, 100);
        same("all that node 2 has", x.pass(2, 1, 100), 3);
        same("READY of node 1, sent meanwhile", x.message(1, x.sent(1) - 1), 21);
        same("it is passed as well", x.pass(1, 2, 100), x.sent(1));
        same("and got", x.votes(2, 0, 0, 1, true), 2);
    }

    private static void passOneToHundred() {
        CHECKS.sentence("5: n is 1 .. 100");
        EchoedRounds x = new EchoedRounds(7);
        for (int v = 1; v < 6; v++) {
            x.corrupt(v);
        }
        for (int k = 0; k < 63; k++) {
            for (int liar = 1; liar <= 3; liar++) {
                x.forge(liar, 0, k / 7, k % 7, READY);
            }
        }
        for (int k = 0; k < 45; k++) {
            x.forge(k % 5 + 1, 0, k / 5, k % 5 + 1, SAYING + 1);
        }
        same("messages to pass", x.sent(0), 108);
        same("one", x.pass(0, 6, 1), 1);
        same("two", x.pass(0, 6, 2), 2);
        same("a hundred and no more", x.pass(0, 6, 100), 100);
        same("some left", x.waiting(0, 6), 5);
        same("got in order", x.votes(6, 8, 6, 0, true), 1);
        same("the last not got", x.votes(6, 8, 5, 1, false), 0);
        same("ninety-nine, of which five are there", x.pass(0, 6, 99), 5);
        same("all got", x.votes(6, 8, 5, 1, false), 1);
    }

    private static void passWhatDoesNotCount() {
        CHECKS.sentence("5: Answers how many those were: also of those that do not count");
        EchoedRounds x = new EchoedRounds(4);
        x.start(1, 1);
        x.corrupt(1);
        x.forge(1, 0, 0, 1, SAYING);
        x.forge(1, 0, 0, 1, ECHO);
        same("neither counts, both are got", x.pass(1, 0, 100), 2);
        same("none waits", x.waiting(1, 0), 0);
        same("no echo of the second saying", x.sent(0), 1);
        same("no vote by the second echo", x.votes(0, 0, 1, 1, false), 0);
    }

    private static void passFromTheIllBehaved() {
        CHECKS.sentence("5: v may be ill-behaved");
        EchoedRounds x = new EchoedRounds(6);
        x.start(5, 0);
        x.corrupt(5);
        x.corrupt(4);
        same("its log comes", x.pass(5, 0, 100), 2);
        same("and is echoed", x.message(0, 0), 510);
        same("an empty log of another", x.pass(4, 0, 100), 0);
    }

    private static void forgeKindAndValue() {
        CHECKS.sentence("6: of the kind what / 4, the slot, the speaker and the value what % 4");
        for (int n = 4; n <= 7; n++) {
            for (int what = 0; what <= 11; what++) {
                EchoedRounds x = new Siege(n).rounds;
                yes("what " + what, x.forge(1, 0, 3, 1, what));
                same("echoed, if it is a saying", x.message(0, 0), what < 4 ? 3110 + what : NONE);
                for (int value = 0; value <= 3; value++) {
                    same("ECHO votes", x.votes(0, 3, 1, value, false), what < 8 && what % 4 == value ? 1 : 0);
                    same("READY votes", x.votes(0, 3, 1, value, true), what == 8 + value ? 1 : 0);
                }
            }
        }
    }

    private static void forgeSlotsAndSpeakers() {
        CHECKS.sentence("6: slot is 0 .. 8; speaker is a node");
        for (int n = 4; n <= 7; n++) {
            EchoedRounds x = new Siege(n).rounds;
            for (int slot = -1; slot <= 9; slot++) {
                for (int speaker = -1; speaker <= n; speaker++) {
                    boolean due = slot >= 0 && slot <= 8 && speaker >= 0 && speaker < n;
                    String what = "slot " + slot + ", speaker " + speaker + " of " + n;
                    same(what, bit(x.forge(n - 1, 0, slot, speaker, ECHO + 3)), bit(due));
                    same(what, x.votes(0, slot, speaker, 3, false), bit(due));
                }
            }
        }
    }

    private static void forgeIsInNoLog() {
        CHECKS.sentence("6: Node w gets a message from the ill-behaved node v that is in no log");
        EchoedRounds x = new EchoedRounds(5);
        x.start(1, 1);
        x.corrupt(1);
        yes("a saying of slot 1", x.forge(1, 0, 1, 1, SAYING + 1));
        same("the log of the liar stays", x.sent(1), 2);
        same("what waits stays", x.waiting(1, 0), 2);
        same("no one else got it", x.sent(2), 0);
        same("the log is passed in full", x.pass(1, 0, 100), 2);
        for (int v = 0; v < 5; v++) {
            same("accepted by none", x.accepted(v, 1, 1), NONE);
        }
    }

    private static void forgeSettles() {
        CHECKS.sentence("6: then it settles");
        for (int n = 4; n <= 7; n++) {
            Siege siege = new Siege(n);
            siege.rounds.start(0, 1);
            for (int speaker = 1; speaker < siege.chosen(); speaker++) {
                siege.accept(0, speaker, 1);
            }
            for (int liar = 1; liar < 2 * siege.liars; liar++) {
                siege.rounds.forge(liar, 0, 0, 0, READY + 1);
            }
            same("slot 0 still", siege.rounds.slot(0), 0);
            yes("the last READY", siege.rounds.forge(n - 1, 0, 0, 0, READY + 1));
            same("its own READY is got", siege.rounds.votes(0, 0, 0, 1, true), 2 * siege.liars + 1);
            same("accepted", siege.rounds.accepted(0, 0, 0), 1);
            same("valid", siege.rounds.rowAt(0, 0, siege.chosen() - 1), 0);
            same("gone on", siege.rounds.slot(0), 1);
            same("said and echoed", siege.messageLast(), 1011);
            same("none of its own waits", siege.rounds.waiting(0, 0), 0);
        }
    }

    private static void forgeAnswersWhetherItCounts() {
        CHECKS.sentence("6: Answers whether the message counts");
        EchoedRounds x = new EchoedRounds(7);
        x.corrupt(1);
        x.corrupt(2);
        yes("saying of itself", x.forge(1, 0, 8, 1, SAYING + 3));
        no("saying twice", x.forge(1, 0, 8, 1, SAYING + 3));
        no("saying twice, other value", x.forge(1, 0, 8, 1, SAYING + 2));
        no("saying of another", x.forge(1, 0, 8, 2, SAYING + 3));
        no("saying of the node that gets it", x.forge(1, 0, 8, 0, SAYING + 3));
        yes("the other's own saying", x.forge(2, 0, 8, 2, SAYING + 3));
        yes("to another node", x.forge(1, 3, 8, 1, SAYING + 2));
        yes("echo", x.forge(1, 0, 8, 1, ECHO + 2));
        no("echo twice", x.forge(1, 0, 8, 1, ECHO + 2));
        no("echo twice, other value", x.forge(1, 0, 8, 1, ECHO + 3));
        yes("echo of another slot", x.forge(1, 0, 7, 1, ECHO + 3));
        yes("echo of another speaker", x.forge(1, 0, 8, 3, ECHO + 3));
        yes("READY", x.forge(1, 0, 8, 1, READY));
        no("READY twice", x.forge(1, 0, 8, 1, READY));
        yes("READY of another node", x.forge(2, 0, 8, 1, READY));
        same("echoes sent", x.sent(0), 2);
        same("votes of the first echo, and the own one", x.votes(0, 8, 1, 3, false), 1);
        same("votes of the first echo", x.votes(0, 8, 1, 2, false), 1);
        same("votes of the READYs", x.votes(0, 8, 1, 0, true), 2);
    }

    /** Seven nodes: nine sayings, 63 echoes and 63 READYs are all that a node can send. */
    private static void fullLog() {
        CHECKS.sentence("7, 8, 9: the longest log");
        Siege siege = new Siege(7);
        EchoedRounds x = siege.rounds;
        x.start(0, 0);
        siege.leadTo(9);
        for (int slot = 0; slot <= 8; slot++) {
            for (int liar = 1; liar < 7; liar++) {
                x.forge(liar, 0, slot, liar, SAYING + 3);
            }
        }
        same("sent", x.sent(0), 135);
        same("the last message", x.message(0, 134), 8613);
        same("none after it", x.message(0, 135), NONE);
        same("all wait", x.waiting(0, 6), 135);
        same("none of its own", x.waiting(0, 0), 0);
        no("no more sayings", x.forge(6, 0, 8, 6, SAYING + 1));
        same("sent still", x.sent(0), 135);
        same("slot", x.slot(0), 9);
    }

    private static void callsWithinTheLimit() {
        CHECKS.sentence("An object is used for at most 512 calls after it has been made");
        EchoedRounds x = new EchoedRounds(4);
        for (int call = 1; call <= 508; call++) {
            same("call " + call, x.pass(call % 4, (call + 1) % 4, 100), 0);
        }
        yes("call 509", x.start(0, 1));
        same("call 510", x.pass(0, 1, 100), 2);
        same("call 511", x.message(1, 0), 11);
        same("call 512", x.waiting(1, 0), 1);
    }

    /** What later calls answer is free, but LANGUAGE.md lets none throw or fail to end. */
    private static void callsPastTheLimit() {
        CHECKS.sentence("nothing about an object after its 512th call, but that it ends");
        java.util.Random draw = new java.util.Random(7);
        for (int n = 4; n <= 7; n++) {
            EchoedRounds x = new EchoedRounds(n);
            int calls = 0;
            for (int k = 0; k < 20000; k++) {
                if (k == 4000 || k == 6000) {
                    x.corrupt(k / 2000);
                }
                x.start(draw.nextInt(n), draw.nextInt(2));
                x.pass(draw.nextInt(n), draw.nextInt(n), 1 + draw.nextInt(100));
                x.forge(2 + draw.nextInt(2), draw.nextInt(n), draw.nextInt(9), draw.nextInt(n), draw.nextInt(12));
                calls += 3;
            }
            same("calls that ended", calls, 60000);
        }
    }

    private static int bit(boolean answer) {
        return answer ? 1 : 0;
    }

    private static void same(String what, int got, int due) {
        CHECKS.same(what, got, due);
    }

    private static void yes(String what, boolean got) {
        CHECKS.yes(what, got);
    }

    private static void no(String what, boolean got) {
        CHECKS.no(what, got);
    }
}
