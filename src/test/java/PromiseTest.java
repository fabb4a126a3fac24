/** The promises 1 to 15, one by one. */
public final class PromiseTest {
    private static final int NONE = EchoedRounds.NONE;
    private static final int[] FAR = {Integer.MIN_VALUE, -8, -1, 7, 8, 100, Integer.MAX_VALUE};
    private static final Checks CHECKS = new Checks();

    public static void main(String[] args) {
        newObject();
        corrupt();
        tosses();
        start();
        pass();
        passOfManyMessages();
        forge();
        forgeRefused();
        sent();
        message();
        waiting();
        votes();
        accepted();
        rowAt();
        slotAndValue();
        decided();
        CHECKS.end();
    }

    /** Promise 1. */
    private static void newObject() {
        int[][] asked = {{4, 4}, {5, 5}, {6, 6}, {7, 7}, {3, 4}, {0, 4}, {-1, 4}, {8, 7},
            {Integer.MIN_VALUE, 4}, {Integer.MAX_VALUE, 7}};
        for (int[] pair : asked) {
            EchoedRounds x = new EchoedRounds(pair[0]);
            int n = pair[1];
            same("1 last node", x.sent(n - 1), 0);
            same("1 past the last node", x.sent(n), NONE);
            for (int v = 0; v < n; v++) {
                same("1 log", x.sent(v), 0);
                same("1 slot", x.slot(v), NONE);
                same("1 value", x.value(v), NONE);
                same("1 decided", x.decided(v), NONE);
                same("1 waiting", x.waiting(v, (v + 1) % n), 0);
                same("1 row", x.rowAt(v, 0, 0), NONE);
                same("1 accepted", x.accepted(v, 8, v), NONE);
                same("1 votes", x.votes(v, 0, 0, 0, true), 0);
                yes("1 well-behaved", x.tosses(v, 0));
            }
        }
    }

    /** Promise 2. */
    private static void corrupt() {
        EchoedRounds x = new EchoedRounds(7);
        x.start(2, 1);
        x.start(3, 1);
        x.pass(3, 2, 1);
        yes("2 corrupt", x.corrupt(2));
        no("2 corrupt again", x.corrupt(2));
        for (int v : FAR) {
            no("2 corrupt no node", x.corrupt(v));
        }
        same("2 its log stays", x.sent(2), 3);
        same("2 its messages stay", x.message(2, 2), 311);
        same("2 its slot stays", x.slot(2), 0);
        same("2 its value stays", x.value(2), 1);
        same("2 its votes stay", x.votes(2, 0, 3, 1, false), 1);
        same("2 it gets nothing", x.pass(3, 2, 1), NONE);
        same("2 so it waits", x.waiting(3, 2), 1);
        same("2 its log is told still", x.pass(2, 4, 100), 3);
        same("2 and answered", x.message(4, 0), 211);
        no("2 it has no tosses", x.tosses(2, 1));
        yes("2 it may forge", x.forge(2, 4, 5, 2, 0));
        no("2 the others may not", x.forge(3, 4, 5, 3, 0));
        EchoedRounds small = new EchoedRounds(4);
        no("2 corrupt past the last node", small.corrupt(4));
        for (int v = 0; v < 4; v++) {
            yes("2 all may be corrupted", small.corrupt(v));
        }
    }

    /** Promise 3. */
    private static void tosses() {
        EchoedRounds x = new EchoedRounds(6);
        yes("3 tosses", x.tosses(5, 7));
        no("3 past the last node", x.tosses(6, 7));
        for (int v : FAR) {
            no("3 no node", x.tosses(v, 7));
        }
        x.corrupt(5);
        no("3 ill-behaved", x.tosses(5, 7));
        int[] drawn = {0, 1, 2, 3, 4, 5, 6, 7, 8, -1, -2, -8, Integer.MIN_VALUE + 5};
        for (int bits : drawn) {
            Siege siege = new Siege(4);
            yes("3 any bits", siege.rounds.tosses(0, bits));
            siege.rounds.start(0, 0);
            for (int r = 0; r < 3; r++) {
                tossOnce(siege, r);
                same("3 bit of round " + r + " of " + bits, siege.rounds.value(0), bits >> r & 1);
                same("3 slot after round", siege.rounds.slot(0), 3 * r + 3);
            }
        }
        Siege late = new Siege(4);
        late.rounds.start(0, 0);
        tossOnce(late, 0);
        same("3 no toss given", late.rounds.value(0), 0);
        late.rounds.tosses(0, 7);
        same("3 a toss past is past", late.rounds.value(0), 0);
        tossOnce(late, 1);
        same("3 tosses of a started node", late.rounds.value(0), 1);
        late.rounds.tosses(0, 0);
        tossOnce(late, 2);
        same("3 tosses taken back", late.rounds.value(0), 0);
    }

    /** Leads node 0 through one round in which no value is held firm. */
    private static void tossOnce(Siege siege, int round) {
        siege.acceptAll(3 * round, 0, 1, 0, 1);
        siege.acceptAll(3 * round + 1, 0, 1, 0, 1);
        siege.acceptAll(3 * round + 2, 0, 1, 0, 1);
    }

    /** Promise 4. */
    private static void start() {
        EchoedRounds x = new EchoedRounds(5);
        for (int v : FAR) {
            no("4 no node", x.start(v, 0));
        }
        no("4 past the last node", x.start(5, 0));
        for (int value : new int[] {Integer.MIN_VALUE, -1, 2, 3, 4, Integer.MAX_VALUE}) {
            no("4 not 0 or 1", x.start(1, value));
        }
        same("4 refused, nothing said", x.sent(1), 0);
        same("4 refused, not started", x.slot(1), NONE);
        yes("4 start", x.start(1, 1));
        no("4 start again", x.start(1, 1));
        no("4 start again, other value", x.start(1, 0));
        same("4 slot", x.slot(1), 0);
        same("4 value", x.value(1), 1);
        same("4 says and echoes itself", x.sent(1), 2);
        same("4 saying", x.message(1, 0), 101);
        same("4 echo", x.message(1, 1), 111);
        same("4 own echo is got", x.votes(1, 0, 1, 1, false), 1);
        same("4 nothing of its own waits", x.waiting(1, 1), 0);
        x.corrupt(2);
        no("4 ill-behaved", x.start(2, 0));
        startLate();
    }

    /** A node that was not started echoes and fills its rows, and goes on at once when started. */
    private static void startLate() {
        Siege siege = new Siege(4);
        siege.acceptAll(0, 1, 1, 1);
        siege.acceptAll(1, 1, 1, 1);
        same("4 not started, in no slot", siege.rounds.slot(0), NONE);
        same("4 not started, has a row", siege.rounds.rowAt(0, 1, 2), 2);
        int before = siege.rounds.sent(0);
        yes("4 start late", siege.rounds.start(0, 0));
        same("4 goes on at once", siege.rounds.slot(0), 2);
        same("4 value of slot 2", siege.rounds.value(0), 3);
        same("4 own saying of slot 0", siege.rounds.message(0, before), 0);
        same("4 own echo comes before going on", siege.rounds.message(0, before + 1), 10);
        same("4 own saying of slot 1", siege.rounds.message(0, before + 2), 1001);
        same("4 own echo of slot 1", siege.rounds.message(0, before + 3), 1011);
        same("4 own saying of slot 2", siege.rounds.message(0, before + 4), 2003);
        same("4 own echo of slot 2", siege.rounds.message(0, before + 5), 2013);
        same("4 no more", siege.rounds.sent(0), before + 6);
    }

    /** Promise 5. */
    private static void pass() {
        EchoedRounds x = new EchoedRounds(4);
        x.start(0, 1);
        x.corrupt(3);
        for (int v : FAR) {
            same("5 from no node", x.pass(v, 0, 1), NONE);
            same("5 to no node", x.pass(0, v, 1), NONE);
        }
        same("5 from past the last", x.pass(4, 0, 1), NONE);
        same("5 to past the last", x.pass(0, 4, 1), NONE);
        same("5 to itself", x.pass(0, 0, 1), NONE);
        same("5 to the ill-behaved", x.pass(0, 3, 1), NONE);
        for (int n : new int[] {0, -1, 101, Integer.MIN_VALUE, Integer.MAX_VALUE}) {
            same("5 wrong n", x.pass(0, 1, n), NONE);
        }
        same("5 refused, nothing got", x.waiting(0, 1), 2);
        same("5 refused, nothing sent", x.sent(1), 0);
        same("5 one", x.pass(0, 1, 1), 1);
        same("5 echo sent", x.message(1, 0), 11);
        same("5 fewer than asked", x.pass(0, 1, 100), 1);
        same("5 none left", x.pass(0, 1, 100), 0);
        same("5 empty log of the ill-behaved", x.pass(3, 1, 1), 0);
        same("5 votes", x.votes(1, 0, 0, 1, false), 2);
        same("5 the echo back", x.pass(1, 0, 2), 1);
        same("5 no READY at two echoes", x.sent(0), 2);
        x.pass(0, 2, 1);
        same("5 third echo", x.pass(2, 0, 1), 1);
        same("5 READY at three echoes", x.message(0, 2), 21);
    }

    private static void passOfManyMessages() {
        EchoedRounds x = new EchoedRounds(7);
        for (int v = 1; v < 6; v++) {
            x.corrupt(v);
        }
        for (int k = 0; k < 63; k++) {
            for (int liar = 1; liar < 4; liar++) {
                x.forge(liar, 0, k / 7, k % 7, 8);
            }
        }
        for (int k = 0; k < 45; k++) {
            x.forge(k % 5 + 1, 0, k / 5, k % 5 + 1, 1);
        }
        same("5 messages to pass", x.sent(0), 108);
        same("5 some", x.pass(0, 6, 3), 3);
        same("5 a hundred at most", x.pass(0, 6, 100), 100);
        same("5 some left", x.waiting(0, 6), 5);
        same("5 got in order", x.votes(6, 8, 6, 0, true), 1);
        same("5 the last not got", x.votes(6, 8, 5, 1, false), 0);
        same("5 exactly what is left", x.pass(0, 6, 5), 5);
        same("5 all got", x.votes(6, 8, 5, 1, false), 1);
    }

    /** Promise 6. */
    private static void forge() {
        EchoedRounds x = new EchoedRounds(7);
        x.corrupt(1);
        x.corrupt(2);
        yes("6 saying of itself", x.forge(1, 0, 8, 1, 3));
        same("6 echoed", x.message(0, 0), 8113);
        no("6 saying twice", x.forge(1, 0, 8, 1, 3));
        no("6 saying twice, other value", x.forge(1, 0, 8, 1, 2));
        no("6 saying of another", x.forge(1, 0, 8, 2, 3));
        same("6 echoed once", x.sent(0), 1);
        yes("6 the other's own saying", x.forge(2, 0, 8, 2, 3));
        yes("6 to another node", x.forge(1, 3, 8, 1, 2));
        same("6 lies differ", x.message(3, 0), 8112);
        yes("6 echo", x.forge(1, 0, 8, 1, 4 + 2));
        no("6 echo again", x.forge(1, 0, 8, 1, 4 + 3));
        same("6 first echo stays", x.votes(0, 8, 1, 2, false), 1);
        same("6 second echo is none", x.votes(0, 8, 1, 3, false), 1);
        yes("6 echo of another slot", x.forge(1, 0, 7, 1, 4 + 3));
        yes("6 echo of another speaker", x.forge(1, 0, 8, 3, 4 + 3));
        yes("6 ready", x.forge(1, 0, 8, 1, 8));
        no("6 ready again", x.forge(1, 0, 8, 1, 8));
        yes("6 ready of another node", x.forge(2, 0, 8, 1, 8));
        same("6 ready votes", x.votes(0, 8, 1, 0, true), 2);
        same("6 it is in no log", x.sent(1), 0);
        forgeAndLog();
    }

    /** What a liar had in its log and what it forges come from one and the same node. */
    private static void forgeAndLog() {
        EchoedRounds x = new EchoedRounds(4);
        x.start(1, 1);
        x.corrupt(1);
        yes("6 forged before the log came", x.forge(1, 0, 0, 1, 0));
        same("6 the log comes", x.pass(1, 0, 100), 2);
        same("6 only the first saying is echoed", x.message(0, 0), 110);
        same("6 no echo of the second", x.sent(0), 1);
        same("6 the echo of the log counts", x.votes(0, 0, 1, 1, false), 1);
        same("6 the log first", x.pass(1, 2, 100), 2);
        no("6 then the forged saying", x.forge(1, 2, 0, 1, 0));
        no("6 then the forged echo", x.forge(1, 2, 0, 1, 4));
        yes("6 then a ready", x.forge(1, 2, 0, 1, 8));
    }

    private static void forgeRefused() {
        EchoedRounds x = new EchoedRounds(5);
        x.corrupt(1);
        x.corrupt(2);
        for (int v : FAR) {
            no("6 from no node", x.forge(v, 0, 0, 1, 0));
            no("6 to no node", x.forge(1, v, 0, 1, 0));
            no("6 of no speaker", x.forge(1, 0, 0, v, 4));
        }
        no("6 from past the last", x.forge(5, 0, 0, 1, 0));
        no("6 to past the last", x.forge(1, 5, 0, 1, 0));
        no("6 of a speaker past the last", x.forge(1, 0, 0, 5, 4));
        no("6 from the well-behaved", x.forge(0, 3, 0, 0, 0));
        no("6 to the ill-behaved", x.forge(1, 2, 0, 1, 0));
        no("6 to itself", x.forge(1, 1, 0, 1, 0));
        for (int s : new int[] {-1, 9, Integer.MIN_VALUE, Integer.MAX_VALUE}) {
            no("6 wrong slot", x.forge(1, 0, s, 1, 0));
        }
        for (int what : new int[] {-1, -4, 12, 13, Integer.MIN_VALUE, Integer.MAX_VALUE}) {
            no("6 wrong what", x.forge(1, 0, 0, 1, what));
        }
        for (int v = 0; v < 5; v++) {
            same("6 refused, nothing sent", x.sent(v), 0);
        }
        for (int what = 0; what < 12; what += 4) {
            yes("6 refused ones did not count", x.forge(1, 0, 0, 1, what));
        }
    }

    /** Promise 7. */
    private static void sent() {
        EchoedRounds x = new EchoedRounds(4);
        same("7 empty", x.sent(3), 0);
        x.start(3, 0);
        same("7 saying and echo", x.sent(3), 2);
        same("7 others sent nothing", x.sent(2), 0);
        same("7 past the last", x.sent(4), NONE);
        for (int v : FAR) {
            same("7 no node", x.sent(v), NONE);
        }
    }

    /** Promise 8. */
    private static void message() {
        Siege siege = new Siege(7);
        siege.rounds.forge(6, 0, 8, 6, 3);
        same("8 echo", siege.rounds.message(0, 0), 8613);
        siege.accept(8, 5, 2);
        same("8 ready", siege.rounds.message(0, 1), 8522);
        siege.rounds.start(0, 1);
        same("8 saying", siege.rounds.message(0, 2), 1);
        same("8 own echo", siege.rounds.message(0, 3), 11);
        for (int k : new int[] {-1, 4, 135, 136, Integer.MIN_VALUE, Integer.MAX_VALUE}) {
            same("8 no message", siege.rounds.message(0, k), NONE);
        }
        for (int v : FAR) {
            same("8 no node", siege.rounds.message(v, 0), NONE);
        }
        same("8 empty log", siege.rounds.message(1, 0), NONE);
    }

    /** Promise 9. */
    private static void waiting() {
        EchoedRounds x = new EchoedRounds(6);
        x.start(4, 1);
        for (int w = 0; w < 6; w++) {
            same("9 waiting", x.waiting(4, w), w == 4 ? 0 : 2);
            same("9 the other way", x.waiting(w, 4), 0);
        }
        x.pass(4, 5, 1);
        same("9 one got", x.waiting(4, 5), 1);
        x.corrupt(5);
        same("9 stays with the ill-behaved", x.waiting(4, 5), 1);
        x.corrupt(0);
        x.forge(0, 4, 0, 0, 0);
        same("9 grows for the ill-behaved", x.waiting(4, 5), 2);
        same("9 what is forged does not wait", x.waiting(0, 4), 0);
        for (int v : FAR) {
            same("9 from no node", x.waiting(v, 0), NONE);
            same("9 to no node", x.waiting(0, v), NONE);
        }
        same("9 past the last", x.waiting(0, 6), NONE);
        same("9 past the last", x.waiting(6, 0), NONE);
    }

    /** Promise 10. */
    private static void votes() {
        Siege siege = new Siege(5);
        EchoedRounds x = siege.rounds;
        x.forge(1, 0, 4, 3, 4 + 2);
        x.forge(2, 0, 4, 3, 4 + 2);
        x.forge(3, 0, 4, 3, 4 + 1);
        x.forge(3, 0, 4, 3, 4 + 2);
        x.forge(4, 0, 4, 3, 8 + 2);
        same("10 echoes", x.votes(0, 4, 3, 2, false), 2);
        same("10 echoes of another value", x.votes(0, 4, 3, 1, false), 1);
        same("10 readies", x.votes(0, 4, 3, 2, true), 1);
        same("10 no readies", x.votes(0, 4, 3, 1, true), 0);
        same("10 another slot", x.votes(0, 3, 3, 2, false), 0);
        same("10 another speaker", x.votes(0, 4, 2, 2, false), 0);
        same("10 another node", x.votes(1, 4, 3, 2, false), 0);
        x.forge(1, 0, 8, 4, 4);
        same("10 last slot and speaker", x.votes(0, 8, 4, 0, false), 1);
        same("10 no value 4 of the speaker before", x.votes(0, 8, 3, 4, false), 0);
        x.forge(1, 0, 0, 0, 4 + 3);
        same("10 least slot and speaker", x.votes(0, 0, 0, 3, false), 1);
        for (boolean ready : new boolean[] {false, true}) {
            for (int far : FAR) {
                same("10 no node", x.votes(far, 4, 3, 2, ready), 0);
                same("10 no speaker", x.votes(0, 4, far, 2, ready), 0);
                same("10 no value", x.votes(0, 4, 3, far, ready), 0);
            }
            for (int s : new int[] {-1, 9, Integer.MIN_VALUE, Integer.MAX_VALUE}) {
                same("10 no slot", x.votes(0, s, 3, 2, ready), 0);
            }
            same("10 no value 4", x.votes(0, 4, 3, 4, ready), 0);
            same("10 past the last", x.votes(5, 4, 3, 2, ready), 0);
            same("10 speaker past the last", x.votes(0, 4, 5, 2, ready), 0);
        }
    }

    /** Promise 11. */
    private static void accepted() {
        for (int value = 0; value < 4; value++) {
            Siege siege = new Siege(6);
            siege.accept(8, 5, value);
            same("11 accepted", siege.rounds.accepted(0, 8, 5), value);
            same("11 another speaker", siege.rounds.accepted(0, 8, 4), NONE);
            same("11 another slot", siege.rounds.accepted(0, 7, 5), NONE);
            same("11 another node", siege.rounds.accepted(1, 8, 5), NONE);
            siege.rounds.corrupt(0);
            same("11 stays with the ill-behaved", siege.rounds.accepted(0, 8, 5), value);
            for (int far : FAR) {
                same("11 no node", siege.rounds.accepted(far, 8, 5), NONE);
                same("11 no speaker", siege.rounds.accepted(0, 8, far), NONE);
            }
            for (int s : new int[] {-1, 9, Integer.MIN_VALUE, Integer.MAX_VALUE}) {
                same("11 no slot", siege.rounds.accepted(0, s, 5), NONE);
            }
            same("11 past the last", siege.rounds.accepted(6, 8, 5), NONE);
            same("11 speaker past the last", siege.rounds.accepted(0, 8, 6), NONE);
        }
    }

    /** Promise 12. */
    private static void rowAt() {
        Siege siege = new Siege(4);
        siege.accept(0, 3, 1).accept(0, 0, 0).accept(0, 2, 2).accept(0, 1, 1);
        int[] row = {3, 0, 1};
        for (int k = 0; k < row.length; k++) {
            same("12 in the order they came", siege.rounds.rowAt(0, 0, k), row[k]);
        }
        for (int k : new int[] {-1, 3, 4, 6, 7, Integer.MIN_VALUE, Integer.MAX_VALUE}) {
            same("12 no place", siege.rounds.rowAt(0, 0, k), NONE);
        }
        same("12 another slot", siege.rounds.rowAt(0, 1, 0), NONE);
        same("12 another node", siege.rounds.rowAt(1, 0, 0), NONE);
        for (int v : FAR) {
            same("12 no node", siege.rounds.rowAt(v, 0, 0), NONE);
        }
        same("12 past the last", siege.rounds.rowAt(4, 0, 0), NONE);
        for (int s : new int[] {-1, 9, Integer.MIN_VALUE, Integer.MAX_VALUE}) {
            same("12 no slot", siege.rounds.rowAt(0, s, 0), NONE);
        }
    }

    /** Promises 13 and 14. */
    private static void slotAndValue() {
        Siege siege = new Siege(4);
        EchoedRounds x = siege.rounds;
        same("13 not started", x.slot(0), NONE);
        same("14 not started", x.value(0), NONE);
        x.start(0, 0);
        int[] values = {1, 3, 1, 1, 3, 1, 1, 3, 1};
        for (int s = 0; s < 9; s++) {
            same("13 slot", x.slot(0), s);
            same("14 value", x.value(0), s == 0 ? 0 : values[s - 1]);
            int said = s % 3 == 2 ? 3 : 1;
            siege.accept(s, 1, said).accept(s, 2, said);
            same("13 two are too few", x.slot(0), s);
            siege.accept(s, 3, said);
        }
        same("13 the last slot", x.slot(0), 9);
        same("14 value of the last slot", x.value(0), 1);
        siege.accept(8, 0, 3);
        same("13 stays there", x.slot(0), 9);
        x.corrupt(0);
        same("13 ill-behaved", x.slot(0), 9);
        same("14 ill-behaved", x.value(0), 1);
        for (int v : FAR) {
            same("13 no node", x.slot(v), NONE);
            same("14 no node", x.value(v), NONE);
        }
        same("13 past the last", x.slot(4), NONE);
        same("14 past the last", x.value(4), NONE);
    }

    /** Promise 15. */
    private static void decided() {
        for (int v = 0; v < 2; v++) {
            Siege siege = new Siege(5);
            siege.rounds.start(0, 1 - v);
            same("15 not at the start", siege.rounds.decided(0), NONE);
            siege.acceptAll(0, v, v, v, v).acceptAll(1, v, v, v, v);
            siege.acceptAll(2, v + 2, v + 2, v + 2);
            same("15 not before going on", siege.rounds.decided(0), NONE);
            siege.accept(2, 3, v + 2);
            same("15 decided", siege.rounds.decided(0), v);
            same("15 another node", siege.rounds.decided(1), NONE);
            siege.rounds.corrupt(0);
            same("15 ill-behaved", siege.rounds.decided(0), v);
            for (int far : FAR) {
                same("15 no node", siege.rounds.decided(far), NONE);
            }
            same("15 past the last", siege.rounds.decided(5), NONE);
        }
    }

    private static void same(String what, int got, int due) {
        CHECKS.same(what, got, due);
    }

    private static void yes(String what, boolean got) {
        CHECKS.yes(what, got);
    }

    private static void no(String what, boolean got) {
        CHECKS.no(what, got);
    }
}
