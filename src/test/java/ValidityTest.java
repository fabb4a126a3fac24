/** The document's terms, second part: rows, and which accepted values can become valid. */
public final class ValidityTest {
    private static final int NONE = EchoedRounds.NONE;
    private static final Checks CHECKS = new Checks();

    public static void main(String[] args) {
        emptyAtFirst();
        toTheEndOfTheRow();
        stepOfSlot();
        slotZero();
        stepOne();
        justAsManyForZeroAlone();
        stepTwoFirm();
        stepTwoPlain();
        neverBothFirm();
        laterRound();
        laterRoundFirmOrAtMostF();
        leastSlotAndSpeakerFirst();
        leastSlotFirst();
        CHECKS.end();
    }

    private static void emptyAtFirst() {
        CHECKS.sentence("A node has a ROW for each slot, empty at first");
        for (int n = 4; n <= 7; n++) {
            for (int v = 0; v < n; v++) {
                EchoedRounds x = new EchoedRounds(n);
                for (int slot = 0; slot <= 8; slot++) {
                    for (int k = 0; k < n; k++) {
                        same("row of slot " + slot, x.rowAt(v, slot, k), NONE);
                    }
                }
            }
        }
    }

    private static void toTheEndOfTheRow() {
        CHECKS.sentence("a speaker whose value becomes valid comes to the end of the row");
        for (int n = 4; n <= 7; n++) {
            for (int slot = 0; slot <= 8; slot++) {
                Siege siege = new Siege(n).leadTo(slot);
                for (int k = 0; k < n; k++) {
                    // 3 has no divisor in common with 4, 5 and 7; for 6 the steps are of 5.
                    int speaker = k * (n == 6 ? 5 : 3) % n;
                    // Step 2 takes what the speaker said before; leadTo gives it for one and all.
                    int x = slot % 3 == 2 ? siege.rounds.accepted(0, slot - 1, speaker) : speaker % 2;
                    same("no one there yet", siege.rounds.rowAt(0, slot, k), NONE);
                    siege.accept(slot, speaker, x);
                    same("place " + k + " of slot " + slot, siege.rounds.rowAt(0, slot, k), speaker);
                }
                same("the row is full", siege.rounds.rowAt(0, slot, n), NONE);
            }
        }
    }

    private static void stepOfSlot() {
        CHECKS.sentence("There are three ROUNDS of three steps: the STEP of slot s is s % 3");
        for (int n = 4; n <= 7; n++) {
            for (int slot = 0; slot <= 8; slot++) {
                for (int x = 0; x <= 3; x++) {
                    boolean ofStepTwo = slot == 2 || slot == 5 || slot == 8;
                    Siege siege = new Siege(n);
                    // Where firm values follow, it is 3, and 1 for those who said 1 before, as speaker 0.
                    siege = ofStepTwo ? siege.leadToFirm(slot, 1) : siege.leadTo(slot);
                    siege.accept(slot, 0, x);
                    boolean due = ofStepTwo ? x == 1 || x == 3 : x <= 1;
                    same(x + " in slot " + slot + " of " + n, bit(siege.inRow(slot, 0)), bit(due));
                }
            }
        }
    }

    private static void slotZero() {
        CHECKS.sentence("slot 0: x is 0 or 1");
        for (int n = 4; n <= 7; n++) {
            for (int x = 0; x <= 3; x++) {
                Siege siege = new Siege(n).accept(0, n - 1, x);
                same("accepted", siege.rounds.accepted(0, 0, n - 1), x);
                same("valid: " + x, siege.rounds.rowAt(0, 0, 0), x <= 1 ? n - 1 : NONE);
            }
        }
    }

    /** For every row of the slot before, from one speaker too few to all of them. */
    private static void stepOne() {
        CHECKS.sentence("step 1: x is 0 or 1, and some n - F speakers can be chosen of whose values more are x than are not");
        for (int n = 4; n <= 7; n++) {
            for (int slot = 1; slot <= 7; slot += 3) {
                for (int zeros = 0; zeros <= n; zeros++) {
                    for (int ones = 0; ones <= n - zeros; ones++) {
                        for (int x = 0; x <= 3; x++) {
                            boolean due = stepOneDue(n, zeros, ones, x);
                            lookAtBothOrders(n, slot, zeros, ones, n - 1, x, due);
                        }
                    }
                }
            }
        }
    }

    private static boolean stepOneDue(int n, int zeros, int ones, int x) {
        int chosen = n == 7 ? 5 : n - 1;
        for (int c = 0; c <= chosen; c++) {
            if (c <= zeros && chosen - c <= ones) {
                boolean zeroFollows = c >= chosen - c;
                if (x == 0 && zeroFollows || x == 1 && !zeroFollows) {
                    return true;
                }
            }
        }
        return false;
    }

    /** x is accepted before the row that it must follow from, and after it. */
    private static void lookAtBothOrders(int n, int slot, int zeros, int ones, int speaker, int x, boolean due) {
        String what = n + " nodes, slot " + slot + ", " + zeros + " zeros, " + ones + " ones, " + x + " of " + speaker;
        Siege early = new Siege(n).leadTo(slot - 1).accept(slot, speaker, x);
        fill(early, slot - 1, zeros, ones);
        same(what + ", early", bit(early.inRow(slot, speaker)), bit(due));
        Siege late = new Siege(n).leadTo(slot - 1);
        fill(late, slot - 1, zeros, ones);
        late.accept(slot, speaker, x);
        same(what + ", late", bit(late.inRow(slot, speaker)), bit(due));
    }

    private static void fill(Siege siege, int slot, int zeros, int ones) {
        for (int p = 0; p < zeros + ones; p++) {
            siege.accept(slot, p, p < zeros ? 0 : 1);
        }
    }

    private static void justAsManyForZeroAlone() {
        CHECKS.sentence("or, for x = 0, just as many");
        Siege even = new Siege(5).acceptAll(1, 0, 1).acceptAll(0, 1, 0, 1, 0);
        yes("0 of two and two", even.inRow(1, 0));
        no("1 of two and two", even.inRow(1, 1));
        Siege below = new Siege(5).acceptAll(1, 0, 1).acceptAll(0, 1, 0, 1, 1);
        no("0 of one and three", below.inRow(1, 0));
        yes("1 of one and three", below.inRow(1, 1));
    }

    private static void stepTwoFirm() {
        CHECKS.sentence("step 2, x is 2 or 3: some n - F speakers more than n / 2 of whose values are x - 2");
        int[] majority = {3, 3, 4, 4};
        for (int n = 4; n <= 7; n++) {
            int chosen = n == 7 ? 5 : n - 1;
            for (int slot = 2; slot <= 8; slot += 3) {
                for (int zeros = 0; zeros <= n; zeros++) {
                    for (int ones = 0; ones <= n - zeros; ones++) {
                        for (int x = 2; x <= 3; x++) {
                            int held = x == 2 ? zeros : ones;
                            boolean due = zeros + ones >= chosen && held >= majority[n - 4];
                            lookAtBothOrders(n, slot, zeros, ones, 0, x, due);
                            lookAtBothOrders(n, slot, zeros, ones, n - 1, x, due);
                        }
                    }
                }
            }
        }
    }

    private static void stepTwoPlain() {
        CHECKS.sentence("x is 0 or 1: p is in the row with the value x, and some n - F speakers neither of whose two values is that of more than n / 2");
        for (int n = 4; n <= 7; n++) {
            for (int slot = 2; slot <= 8; slot += 3) {
                for (int zeros = 0; zeros <= n; zeros++) {
                    for (int ones = 0; ones <= n - zeros; ones++) {
                        for (int speaker = 0; speaker < n; speaker++) {
                            int said = speaker < zeros ? 0 : speaker < zeros + ones ? 1 : NONE;
                            for (int x = 0; x <= 1; x++) {
                                boolean due = said == x && dividedDue(n, zeros, ones);
                                lookAtBothOrders(n, slot, zeros, ones, speaker, x, due);
                            }
                        }
                    }
                }
            }
        }
    }

    private static boolean dividedDue(int n, int zeros, int ones) {
        int chosen = n == 7 ? 5 : n - 1;
        for (int c = 0; c <= chosen; c++) {
            if (c <= zeros && chosen - c <= ones && 2 * c <= n && 2 * (chosen - c) <= n) {
                return true;
            }
        }
        return false;
    }

    /** Why "v = 0 first, then 1" can't be seen: no row holds both firm values. */
    private static void neverBothFirm() {
        CHECKS.sentence("more than n / 2 (twice their number is more than n): not both 2 and 3 in one row");
        for (int n = 4; n <= 7; n++) {
            for (int zeros = 0; zeros <= n; zeros++) {
                Siege siege = new Siege(n).leadTo(1);
                fill(siege, 1, zeros, n - zeros);
                siege.accept(2, 0, 2).accept(2, 1, 3);
                no("both firm", siege.inRow(2, 0) && siege.inRow(2, 1));
                boolean half = 2 * zeros == n;
                same("just half is firm for none", bit(siege.inRow(2, 0) || siege.inRow(2, 1)), bit(!half));
            }
        }
    }

    /** Rows of firm v and plain values, from one speaker too few to all of them. */
    private static void laterRound() {
        CHECKS.sentence("step 0 of a later round: x is 0 or 1, and F + 1 or more are x + 2, or at most F are 2 and at most F are 3");
        for (int n = 4; n <= 7; n++) {
            for (int slot = 3; slot <= 6; slot += 3) {
                for (int v = 0; v <= 1; v++) {
                    for (int firm = 0; firm <= n; firm++) {
                        for (int plain = 0; plain <= n - firm; plain++) {
                            for (int x = 0; x <= 3; x++) {
                                lookAtLaterRound(n, slot, v, firm, plain, x);
                            }
                        }
                    }
                }
            }
        }
    }

    private static void lookAtLaterRound(int n, int slot, int v, int firm, int plain, int x) {
        String what = n + " nodes, slot " + slot + ", " + firm + " firm " + v + ", " + plain + " plain, " + x;
        boolean due = laterRoundDue(n, v, firm, plain, x);
        Siege early = new Siege(n).leadToFirm(slot - 1, v).accept(slot, 1, x);
        fillFirm(early, slot - 1, v, firm, plain);
        same(what + ", early", bit(early.inRow(slot, 1)), bit(due));
        Siege late = new Siege(n).leadToFirm(slot - 1, v);
        fillFirm(late, slot - 1, v, firm, plain);
        same("speakers in the row", late.rounds.rowAt(0, slot - 1, firm + plain - 1) == NONE ? 0 : 1, firm + plain == 0 ? 0 : 1);
        late.accept(slot, 1, x);
        same(what + ", late", bit(late.inRow(slot, 1)), bit(due));
    }

    private static void fillFirm(Siege siege, int slot, int v, int firm, int plain) {
        for (int p = 0; p < firm + plain; p++) {
            siege.accept(slot, p, p < firm ? v + 2 : siege.leaning(p, v));
        }
    }

    private static boolean laterRoundDue(int n, int v, int firm, int plain, int x) {
        int f = n == 7 ? 2 : 1;
        for (int c = 0; c <= n - f; c++) {
            if (c <= firm && n - f - c <= plain && x <= 1 && (c >= f + 1 && x == v || c <= f)) {
                return true;
            }
        }
        return false;
    }

    /** Seven nodes, F = 2, told step by step. */
    private static void laterRoundFirmOrAtMostF() {
        CHECKS.sentence("of whose values F + 1 or more are x + 2, or of whose values at most F are 2 and at most F are 3");
        for (int v = 0; v <= 1; v++) {
            int w = 1 - v;
            Siege siege = new Siege(7).leadToFirm(2, v).accept(3, 0, w).accept(3, 1, v);
            siege.accept(2, 0, v + 2).accept(2, 1, v + 2).accept(2, 2, v + 2).accept(2, 4, w);
            no("four are too few", siege.inRow(3, 1));
            siege.accept(2, 5, w);
            yes("v follows from three firm ones", siege.inRow(3, 1));
            no("the other does not, with three firm ones of five", siege.inRow(3, 0));
            siege.accept(2, 6, w);
            yes("the other, with three plain ones and two firm ones", siege.inRow(3, 0));
        }
    }

    private static void leastSlotAndSpeakerFirst() {
        CHECKS.sentence("that of the least slot, of these that of the least speaker, becomes valid");
        Siege siege = new Siege(4);
        siege.accept(2, 2, 2).accept(2, 0, 2);
        siege.accept(1, 3, 0).accept(1, 1, 0).accept(1, 2, 0);
        siege.accept(0, 3, 0).accept(0, 1, 0);
        same("nothing follows yet", siege.rounds.rowAt(0, 1, 0), NONE);
        siege.accept(0, 0, 0);
        int[][] rows = {{3, 1, 0, NONE}, {1, 2, 3, NONE}, {0, 2, NONE, NONE}};
        for (int s = 0; s < 3; s++) {
            for (int k = 0; k < 4; k++) {
                same("row " + s + " place " + k, siege.rounds.rowAt(0, s, k), rows[s][k]);
            }
        }
    }

    /** A row grows to its end before that of the next slot, though that could grow meanwhile. */
    private static void leastSlotFirst() {
        CHECKS.sentence("Of the accepted values that can become valid and are not, that of the least slot");
        Siege siege = new Siege(4);
        siege.accept(2, 0, 0).accept(2, 1, 2);
        siege.accept(1, 3, 1).accept(1, 0, 0).accept(1, 1, 0).accept(1, 2, 0);
        siege.accept(0, 0, 1).accept(0, 1, 1).accept(0, 2, 0);
        same("1 follows alone", siege.rounds.rowAt(0, 1, 0), 3);
        same("0 does not", siege.rounds.rowAt(0, 1, 1), NONE);
        siege.accept(0, 3, 0);
        same("row 1 is whole", siege.rounds.rowAt(0, 1, 3), 2);
        // With 3, 0 and 1 in row 1 a plain 0 follows; the firm one needs all of row 1.
        same("row 2 by speakers", siege.rounds.rowAt(0, 2, 0), 0);
        same("row 2 by speakers", siege.rounds.rowAt(0, 2, 1), 1);
        Siege other = new Siege(4);
        other.accept(2, 0, 2).accept(2, 1, 0);
        other.accept(1, 3, 1).accept(1, 0, 0).accept(1, 1, 0).accept(1, 2, 0);
        other.acceptAll(0, 1, 1, 0, 0);
        same("row 1 is whole", other.rounds.rowAt(0, 1, 3), 2);
        same("the firm one first, as row 1 is whole", other.rounds.rowAt(0, 2, 0), 0);
        same("then the plain one, of a later speaker", other.rounds.rowAt(0, 2, 1), 1);
    }

    private static int bit(boolean answer) {
        return answer ? 1 : 0;
    }

    private static void same(String what, int got, int due) {
        CHECKS.same(what, got, due);
    }

    private static void yes(String what, boolean got) {
        CHECKS.yes(what, got);
    }

    private static void no(String what, boolean got) {
        CHECKS.no(what, got);
    }
}
