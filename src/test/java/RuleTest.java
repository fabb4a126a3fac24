/** The terms of the document: thresholds, what can become valid, going on and settling. */
public final class RuleTest {
    private static final int NONE = EchoedRounds.NONE;
    private static final Checks CHECKS = new Checks();

    public static void main(String[] args) {
        echoThreshold();
        readyThresholds();
        oneReadyAndOneAcceptance();
        slotZeroValidity();
        stepOneValidity();
        stepTwoFirmValidity();
        stepTwoDividedValidity();
        laterRoundValidity();
        laterRoundAtMostF();
        validityOrder();
        leastSlotFirst();
        goOnFromStepZero();
        goOnFromStepOne();
        goOnFromStepTwo();
        decideOnce();
        onlyTheFirstOfTheRow();
        nothingIsSaidInSlotNine();
        agreement();
        CHECKS.end();
    }

    private static int liars(int n) {
        return (n - 1) / 3;
    }

    private static void echoThreshold() {
        int[] due = {3, 4, 4, 5};
        for (int n = 4; n <= 7; n++) {
            Siege siege = new Siege(n);
            for (int k = 1; k < n; k++) {
                siege.rounds.forge(k, 0, 6, 2, 4 + 3);
                same("READY at echo " + k + " of " + n, siege.rounds.sent(0), k >= due[n - 4] ? 1 : 0);
            }
            same("READY for the echoes", siege.rounds.message(0, 0), 6223);
        }
        Siege split = new Siege(7);
        for (int k = 1; k < 7; k++) {
            split.rounds.forge(k, 0, 6, 2, 4 + k % 2);
        }
        same("echoes of two values do not add up", split.rounds.sent(0), 0);
    }

    private static void readyThresholds() {
        for (int n = 4; n <= 7; n++) {
            int f = liars(n);
            Siege siege = new Siege(n);
            for (int k = 1; k <= 2 * f; k++) {
                same("not yet accepted", siege.rounds.accepted(0, 3, 1), NONE);
                siege.rounds.forge(k, 0, 3, 1, 8 + 1);
                same("READY at READY " + k + " of " + n, siege.rounds.sent(0), k > f ? 1 : 0);
                same("own READY counts", siege.rounds.votes(0, 3, 1, 1, true), k > f ? k + 1 : k);
            }
            same("accepted with the own READY", siege.rounds.accepted(0, 3, 1), 1);
        }
        Siege split = new Siege(7);
        for (int k = 1; k < 5; k++) {
            split.rounds.forge(k, 0, 3, 1, 8 + k % 2);
        }
        same("READYs of two values do not add up", split.rounds.sent(0), 0);
    }

    private static void oneReadyAndOneAcceptance() {
        Siege siege = new Siege(7);
        for (int k = 1; k <= 5; k++) {
            siege.rounds.forge(k, 0, 0, 1, 4 + 1);
        }
        same("READY for the echoes", siege.rounds.message(0, 0), 121);
        for (int k = 1; k <= 4; k++) {
            siege.rounds.forge(k, 0, 0, 1, 8);
        }
        same("no second READY", siege.rounds.sent(0), 1);
        same("own READY is for another value", siege.rounds.votes(0, 0, 1, 0, true), 4);
        same("four of five", siege.rounds.accepted(0, 0, 1), NONE);
        siege.rounds.forge(5, 0, 0, 1, 8);
        same("five of five", siege.rounds.accepted(0, 0, 1), 0);
        // Six nodes alone are enough for two values to get 2 * F + 1 READYs each.
        Siege twice = new Siege(6);
        twice.rounds.forge(1, 0, 0, 1, 8 + 1);
        twice.rounds.forge(2, 0, 0, 1, 8 + 1);
        same("three READYs for 1", twice.rounds.votes(0, 0, 1, 1, true), 3);
        for (int liar = 3; liar <= 5; liar++) {
            twice.rounds.forge(liar, 0, 0, 1, 8);
        }
        same("three READYs for 0", twice.rounds.votes(0, 0, 1, 0, true), 3);
        same("the first acceptance stays", twice.rounds.accepted(0, 0, 1), 1);
    }

    private static void slotZeroValidity() {
        Siege siege = new Siege(4);
        siege.acceptAll(0, 2, 0, 3, 1);
        yes("0 is valid", siege.inRow(0, 1));
        yes("1 is valid", siege.inRow(0, 3));
        no("2 is not", siege.inRow(0, 0));
        no("3 is not", siege.inRow(0, 2));
        same("2 is accepted", siege.rounds.accepted(0, 0, 0), 2);
    }

    private static void stepOneValidity() {
        Siege siege = new Siege(5);
        siege.acceptAll(1, 0, 1, 2, 3);
        siege.acceptAll(0, 0, 0, 1);
        no("three are too few", siege.inRow(1, 0));
        siege.accept(0, 3, 1);
        yes("0 of two and two", siege.inRow(1, 0));
        no("1 of two and two", siege.inRow(1, 1));
        siege.accept(0, 4, 1);
        yes("1 of three of five", siege.inRow(1, 1));
        no("2 never", siege.inRow(1, 2));
        no("3 never", siege.inRow(1, 3));
        Siege ones = new Siege(5);
        ones.acceptAll(1, 0, 1).acceptAll(0, 1, 1, 1, 0, 1);
        no("0 of one of five", ones.inRow(1, 0));
        yes("1 of four of five", ones.inRow(1, 1));
        Siege odd = new Siege(4);
        odd.acceptAll(1, 0, 1).acceptAll(0, 0, 1, 1);
        no("0 of one of three", odd.inRow(1, 0));
        yes("1 of two of three", odd.inRow(1, 1));
        odd.accept(0, 3, 0);
        yes("0 of two of four", odd.inRow(1, 0));
    }

    private static void stepTwoFirmValidity() {
        // The least number of values that is more than n / 2.
        int[] due = {3, 3, 4, 4};
        for (int n = 4; n <= 7; n++) {
            for (int v = 0; v < 2; v++) {
                for (int held = 0; held <= n; held++) {
                    Siege siege = new Siege(n).divide();
                    siege.accept(2, 1, v + 2);
                    for (int p = 0; p < n; p++) {
                        siege.accept(1, p, p < held ? v : 1 - v);
                    }
                    same("firm " + v + " held by " + held + " of " + n, siege.inRow(2, 1) ? 1 : 0,
                        held >= due[n - 4] ? 1 : 0);
                }
            }
        }
        Siege few = new Siege(6).divide();
        few.accept(2, 1, 2).acceptAll(1, 0, 0, 0, 0);
        no("a majority, but the row is short", few.inRow(2, 1));
        few.accept(1, 4, 1);
        yes("the row is long enough", few.inRow(2, 1));
    }

    private static void stepTwoDividedValidity() {
        Siege siege = new Siege(4).divide();
        siege.acceptAll(2, 0, 1, 1, 0).acceptAll(1, 0, 0, 0);
        no("all of three hold 0", siege.inRow(2, 0));
        siege.accept(1, 3, 1);
        yes("two and one can be chosen", siege.inRow(2, 0));
        no("the speaker said 0 before", siege.inRow(2, 1));
        no("the speaker said 1 before", siege.inRow(2, 3));
        Siege absent = new Siege(4).divide();
        absent.accept(2, 3, 1).acceptAll(1, 0, 1, 1);
        no("the speaker is not in the row", absent.inRow(2, 3));
        absent.accept(1, 3, 1);
        yes("now it is", absent.inRow(2, 3));
        Siege half = new Siege(6).divide();
        half.acceptAll(2, 0).acceptAll(1, 0, 0, 0, 0, 1);
        no("four of five hold 0", half.inRow(2, 0));
        half.accept(1, 5, 1);
        yes("just half of the nodes is no majority", half.inRow(2, 0));
        Siege five = new Siege(5).divide();
        five.acceptAll(2, 0).acceptAll(1, 0, 0, 0, 1);
        no("three of four hold 0", five.inRow(2, 0));
        five.accept(1, 4, 1);
        yes("two and two can be chosen", five.inRow(2, 0));
    }

    private static void laterRoundValidity() {
        for (int first = 3; first <= 6; first += 3) {
            Siege siege = new Siege(4);
            for (int s = 0; s < first - 1; s++) {
                siege.acceptAll(s, s % 3 == 2 ? new int[] {3, 3, 3, 3} : new int[] {1, 1, 1, 1});
            }
            siege.acceptAll(first, 0, 1, 2, 3);
            siege.accept(first - 1, 0, 3).accept(first - 1, 1, 3);
            no("two are too few", siege.inRow(first, 1));
            siege.accept(first - 1, 2, 3);
            yes("1 follows from firm ones", siege.inRow(first, 1));
            no("0 does not", siege.inRow(first, 0));
            no("2 never", siege.inRow(first, 2));
            no("3 never", siege.inRow(first, 3));
        }
    }

    /** Row of slot 2, n = 7, F = 2: firm values for v and plain ones. */
    private static void laterRoundAtMostF() {
        for (int v = 0; v < 2; v++) {
            int w = 1 - v;
            Siege siege = new Siege(7).divide();
            siege.acceptAll(1, v, v, v, v, w, w, w).accept(3, 0, w).accept(3, 1, v);
            siege.accept(2, 0, v + 2).accept(2, 1, v + 2).accept(2, 2, v + 2).accept(2, 4, w).accept(2, 5, w);
            same("the row of slot 2", siege.rounds.rowAt(0, 2, 4), 5);
            yes("follows from three firm ones", siege.inRow(3, 1));
            no("the other, with three firm ones of five", siege.inRow(3, 0));
            siege.accept(2, 6, w);
            yes("the other, with three plain ones and two firm ones", siege.inRow(3, 0));
            Siege two = new Siege(7).divide();
            two.acceptAll(1, v, v, v, v, w, w, w).accept(3, 0, w).accept(3, 1, v);
            two.accept(2, 0, v + 2).accept(2, 1, v + 2).accept(2, 4, w).accept(2, 5, w);
            no("four are too few", two.inRow(3, 0));
            two.accept(2, 2, v);
            yes("the one, with F firm ones", two.inRow(3, 1));
            yes("the other, with F firm ones", two.inRow(3, 0));
        }
    }

    private static void validityOrder() {
        Siege siege = new Siege(4);
        siege.accept(2, 2, 2).accept(2, 0, 2);
        siege.accept(1, 3, 0).accept(1, 1, 0).accept(1, 2, 0);
        siege.accept(0, 3, 0).accept(0, 1, 0);
        same("nothing follows yet", siege.rounds.rowAt(0, 1, 0), NONE);
        siege.accept(0, 0, 0);
        int[][] rows = {{3, 1, 0, NONE}, {1, 2, 3, NONE}, {0, 2, NONE, NONE}};
        for (int s = 0; s < 3; s++) {
            for (int k = 0; k < 4; k++) {
                same("row " + s + " place " + k, siege.rounds.rowAt(0, s, k), rows[s][k]);
            }
        }
    }

    /** A row grows to its end before that of the next slot, though that could grow meanwhile. */
    private static void leastSlotFirst() {
        Siege siege = new Siege(4);
        siege.accept(2, 0, 2).accept(2, 1, 0);
        siege.accept(1, 3, 1).accept(1, 0, 0).accept(1, 1, 0).accept(1, 2, 0);
        siege.accept(0, 0, 1).accept(0, 1, 1).accept(0, 2, 0);
        same("1 follows alone", siege.rounds.rowAt(0, 1, 0), 3);
        same("0 does not", siege.rounds.rowAt(0, 1, 1), NONE);
        siege.accept(0, 3, 0);
        same("row 1 is whole", siege.rounds.rowAt(0, 1, 3), 2);
        same("row 2 by speakers", siege.rounds.rowAt(0, 2, 0), 0);
        same("row 2 by speakers", siege.rounds.rowAt(0, 2, 1), 1);
    }

    private static void goOnFromStepZero() {
        int[][] runs = {{0, 0, 1, 0}, {0, 1, 1, 1}, {1, 1, 1, 1}, {0, 0, 0, 0}};
        for (int[] run : runs) {
            Siege siege = new Siege(4);
            siege.rounds.start(0, 1 - run[3]);
            siege.acceptAll(0, run[0], run[1], run[2]);
            same("slot", siege.rounds.slot(0), 1);
            same("value from step 0", siege.rounds.value(0), run[3]);
        }
        Siege even = new Siege(5);
        even.rounds.start(0, 1);
        even.acceptAll(0, 1, 1, 0, 0);
        same("as many ones as zeros", even.rounds.value(0), 0);
    }

    private static void goOnFromStepOne() {
        int[][] runs = {{0, 0, 0, 2}, {1, 1, 1, 3}, {0, 0, 1, -1}, {1, 0, 1, -1}};
        for (int[] run : runs) {
            for (int own = 0; own < 2; own++) {
                Siege siege = new Siege(4);
                siege.rounds.start(0, 1 - own);
                siege.accept(0, 0, own).accept(0, 1, own).accept(0, 2, 1 - own).accept(0, 3, 1 - own);
                same("value of slot 1", siege.rounds.value(0), own);
                siege.acceptAll(1, run[0], run[1], run[2]);
                same("slot", siege.rounds.slot(0), 2);
                same("value from step 1", siege.rounds.value(0), run[3] == -1 ? own : run[3]);
            }
        }
        Siege half = new Siege(6).divide();
        half.rounds.start(0, 0);
        half.acceptAll(1, 1, 1, 1, 0, 0);
        same("three of six are no majority", half.rounds.value(0), 1);
        Siege most = new Siege(6).divide();
        most.rounds.start(0, 0);
        most.acceptAll(1, 1, 1, 1, 1, 0);
        same("four of six are", most.rounds.value(0), 3);
    }

    /** n = 7: slot 2 takes five; so many of the first five are firm. */
    private static void goOnFromStepTwo() {
        for (int v = 0; v < 2; v++) {
            for (int firm = 0; firm <= 5; firm++) {
                for (int toss = 0; toss < 2; toss++) {
                    Siege siege = new Siege(7).divide();
                    siege.rounds.tosses(0, toss == 1 ? 1 : 6);
                    siege.rounds.start(0, 0);
                    int w = 1 - v;
                    siege.acceptAll(1, v, v, v, v, w, w, w);
                    int[] plain = {v, v, v, v, w};
                    for (int p = 0; p < 5; p++) {
                        siege.accept(2, p, p < firm ? v + 2 : plain[p]);
                    }
                    String name = firm + " firm " + v + " of five";
                    same(name + ": slot", siege.rounds.slot(0), 3);
                    same(name + ": value", siege.rounds.value(0), firm >= 3 ? v : toss);
                    same(name + ": decided", siege.rounds.decided(0), firm >= 5 ? v : NONE);
                }
            }
        }
    }

    private static void decideOnce() {
        Siege siege = new Siege(4).divide();
        siege.rounds.start(0, 0);
        siege.acceptAll(1, 0, 0, 0, 1).acceptAll(2, 2, 2, 2, 1);
        same("decided 0", siege.rounds.decided(0), 0);
        siege.accept(3, 3, 1);
        no("1 does not follow any more", siege.inRow(3, 3));
        siege.acceptAll(3, 0, 0, 0).acceptAll(4, 0, 0, 0).acceptAll(5, 2, 2, 2);
        same("a round later", siege.rounds.slot(0), 6);
        same("value there", siege.rounds.value(0), 0);
        same("decided 0 still", siege.rounds.decided(0), 0);
    }

    private static void onlyTheFirstOfTheRow() {
        // Not started, node 0 has all seven in the row; the first five decide its value.
        Siege siege = new Siege(7);
        siege.acceptAll(0, 0, 0, 0, 1, 1, 1, 1);
        siege.rounds.start(0, 1);
        same("first five of the row", siege.rounds.value(0), 0);
        Siege other = new Siege(7);
        for (int p = 6; p >= 0; p--) {
            other.accept(0, p, p < 3 ? 0 : 1);
        }
        other.rounds.start(0, 0);
        same("first five of the other row", other.rounds.value(0), 1);
        Siege late = new Siege(7).divide();
        late.acceptAll(1, 0, 0, 0, 1, 1, 0, 0);
        late.rounds.start(0, 0);
        same("three of the first five are no majority", late.rounds.value(0), 1);
        Siege later = new Siege(7).divide();
        later.acceptAll(1, 0, 0, 0, 1, 1, 0, 0).acceptAll(2, 2, 2, 0, 1, 1, 2, 2);
        later.rounds.tosses(0, 1);
        later.rounds.start(0, 0);
        same("slot after the round", later.rounds.slot(0), 3);
        same("two firm ones of the first five: the toss", later.rounds.value(0), 1);
    }

    private static void nothingIsSaidInSlotNine() {
        Siege siege = new Siege(4);
        siege.rounds.start(0, 0);
        for (int s = 0; s < 9; s++) {
            int said = s % 3 == 2 ? 2 : 0;
            siege.acceptAll(s, said, said, said);
            if (s < 8) {
                same("says and echoes in slot " + (s + 1), siege.messageLast(), 1000 * (s + 1) + 10 + siege.rounds.value(0));
            }
        }
        same("slot 9", siege.rounds.slot(0), 9);
        same("last message is the READY of slot 8", siege.messageLast(), 8222);
        same("value there", siege.rounds.value(0), 0);
    }

    /** Without lies and with all told, all come to the value that all had, whatever the number. */
    private static void agreement() {
        for (int n = 4; n <= 5; n++) {
            for (int x = 0; x < 2; x++) {
                EchoedRounds rounds = new EchoedRounds(n);
                for (int v = 0; v < n; v++) {
                    rounds.start(v, x);
                }
                for (int turn = 0; turn < 20; turn++) {
                    for (int pair = 0; pair < n * n; pair++) {
                        if (pair / n != pair % n) {
                            rounds.pass(pair / n, pair % n, 100);
                        }
                    }
                }
                for (int v = 0; v < n; v++) {
                    same("agreement of " + n, rounds.decided(v), x);
                }
            }
        }
    }

    private static void same(String what, int got, int due) {
        CHECKS.same(what, got, due);
    }

    private static void yes(String what, boolean got) {
        CHECKS.yes(what, got);
    }

    private static void no(String what, boolean got) {
        CHECKS.no(what, got);
    }
}
