/** What the document says of commitments and shares, fines, and the output. */
final class FormulaCases {
    private static final int[] SEEDS = {0, 1, 2, 65535, 65536, 4711, 1073741824, 2147483646, 2147483647};
    private static final String SECTION = "COMMITMENTS AND SHARES";

    private FormulaCases() {
    }

    static void run() {
        commitments();
        polynomials();
        draws();
        publishing();
        recovering();
        fines();
        payingOut();
        output();
    }

    private static void due(String call, long got, long want) {
        Checks.due(call, got, want);
    }

    private static int commitment(long i, long s, long v) {
        return (int) ((31 * s * s + 17 * v + 7 * s * v + 1000 * i + 5) % 10007);
    }

    private static int mark(long share, long j) {
        return (int) ((91 * share * share + 3 * share + j) % 10007);
    }

    private static int draw(int seed) {
        return (int) ((1103515245L * seed + 12345L) % 2147483648L);
    }

    /** The shares of 8 members, by the polynomial as it is told. */
    private static int[] shares(int seed, int secret, int threshold) {
        long[] coefficients = new long[threshold];
        coefficients[0] = secret;
        int now = seed;
        for (int power = 1; power < threshold; power++) {
            now = draw(now);
            coefficients[power] = now / 65536 % 257;
        }
        int[] shares = new int[8];
        for (int j = 0; j < 8; j++) {
            long value = 0;
            long place = 1;
            for (int power = 0; power < threshold; power++) {
                value += coefficients[power] * place;
                place *= j + 1;
            }
            shares[j] = (int) (value % 257);
        }
        return shares;
    }

    private static void commitments() {
        Sentences.test(SECTION, "A secret is a number from 0 to 255.", () -> {
            Checks.change("the secret 0", Beacons::fresh, x -> x.commit(0, 0, 1), 22);
            Checks.change("the secret 255", Beacons::fresh, x -> x.commit(0, 255, 1), commitment(0, 255, 1));
            Checks.refused("the secret -1", Beacons::fresh, x -> x.commit(0, -1, 1), -1);
            Checks.refused("the secret 256", Beacons::fresh, x -> x.commit(0, 256, 1), -1);
        });
        Sentences.test(SECTION, "The commitment of the member i to the secret s with the salt v, which is a number from 0"
            + " to 999, is (31 * s * s + 17 * v + 7 * s * v + 1000 * i + 5) modulo 10007.", () -> {
            int[] secrets = {0, 1, 2, 17, 18, 100, 128, 254, 255};
            int[] salts = {0, 1, 2, 588, 998, 999};
            for (int s : secrets) {
                for (int v : salts) {
                    RevealBeacon x = Beacons.of(8, 1);
                    for (int i = 0; i < 8; i++) {
                        String pair = i + " to " + s + " with " + v;
                        due("commit() of " + pair, x.commit(i, s, v), commitment(i, s, v));
                        due("the commitment of " + pair, x.member(i, 2), commitment(i, s, v));
                    }
                }
            }
            due("0 to 0 with 0", commitment(0, 0, 0), 5);
            due("0 to 0 with 588, just below the modulus", commitment(0, 0, 588), 10001);
            due("0 to 18 with 0, just above it", commitment(0, 18, 0), 31 * 18 * 18 + 5 - 10007);
            Checks.refused("the salt -1", Beacons::fresh, x -> x.commit(0, 0, -1), -1);
            Checks.refused("the salt 1000", Beacons::fresh, x -> x.commit(0, 0, 1000), -1);
        });
        Sentences.test(SECTION, "A commitment does not become different in a round.", () -> {
            RevealBeacon x = Beacons.bound();
            due("another commit()", x.commit(0, 1, 1), -2);
            due("the commitment", x.member(0, 2), 3373);
            x.turn(0, 0);
            x.setSeed(9);
            x.pay(0, 1);
            x.tick(4);
            due("the commitment when off", x.member(0, 2), 3373);
            x.turn(0, 1);
            due("a false one", x.reveal(0, 1, 1), 0);
            due("the commitment", x.member(0, 2), 3373);
            due("another pair", x.reveal(0, 1, 556), 1);
            due("the commitment", x.member(0, 2), 3373);
            x.tick(4);
            x.give(0, 1);
            x.give(2, 1);
            due("that of the recovered one", x.member(1, 2), 8416);
            x.tick(4);
            due("the commitment in 3", x.member(0, 2), 3373);
            due("that of the lost one", x.member(2, 2), 6373);
            x.next();
            due("none in the next round", x.member(0, 2), -9);
        });
    }

    private static void polynomials() {
        Sentences.test(SECTION, "When a member commits itself to the secret s, it makes a polynomial: its constant term is"
            + " s, and its T - 1 further coefficients, of the powers 1 to T - 1, are drawn in ascending order of the"
            + " powers, each below 257.", () -> {
            for (int threshold = 1; threshold <= 8; threshold++) {
                RevealBeacon x = Beacons.of(8, threshold);
                int seed = 1;
                for (int i = 0; i < 8; i++) {
                    int[] shares = shares(seed, 255 - i, threshold);
                    x.commit(i, 255 - i, i);
                    for (int draws = 1; draws < threshold; draws++) {
                        seed = draw(seed);
                    }
                    due("the seed after commit() with T = " + threshold, x.told(7), seed);
                    for (int j = 0; j < 8; j++) {
                        due("mark(" + i + ", " + j + ") with T = " + threshold, x.mark(i, j), mark(shares[j], j));
                    }
                }
            }
            RevealBeacon x = Beacons.of(2, 1);
            x.commit(0, 255, 0);
            due("T = 1: the seed", x.told(7), 1);
            due("T = 1: the share is the secret", x.mark(0, 1), mark(255, 1));
            due("a call that is refused draws nothing", x.commit(0, 255, 0), -2);
            due("the seed", x.told(7), 1);
        });
        Sentences.test(SECTION, "The share of it that the member j gets is the value of this polynomial at j + 1, modulo"
            + " 257.", () -> {
            for (int threshold = 1; threshold <= 8; threshold++) {
                int[] shares = shares(2147483647, 200, threshold);
                for (int j = 1; j < 8; j++) {
                    RevealBeacon x = Beacons.of(8, threshold);
                    x.setSeed(2147483647);
                    x.commit(0, 200, 999);
                    x.commit(j, 0, 0);
                    x.tick(8);
                    due("publish() of " + shares[j], x.publish(j, 0, shares[j]), 1);
                    due("share(0, " + j + ")", x.share(0, j), shares[j]);
                }
            }
        });
        Sentences.test(SECTION, "The mark of this share is (91 * share * share + 3 * share + j) modulo 10007; all marks"
            + " are published with the commitment.", () -> {
            RevealBeacon x = Beacons.of(8, 1);
            due("no mark yet", x.mark(3, 0), -9);
            for (int s = 0; s < 256; s++) {
                x = s % 8 == 0 ? Beacons.of(8, 1) : x;
                x.commit(s % 8, s, 0);
                for (int j = 0; j < 8; j++) {
                    due("the mark of the share " + s + " of " + j, x.mark(s % 8, j), mark(s, j));
                }
            }
            x = shareOf256();
            due("the mark of the share 256", x.mark(0, 0), mark(256, 0));
            x.turn(1, 0);
            x.tick(8);
            due("the mark stays", x.mark(0, 0), mark(256, 0));
            for (int members = 2; members <= 8; members++) {
                marksInDescendingOrder(members);
            }
        });
    }

    /** The last member commits itself first; no later commitment changes its marks. */
    private static void marksInDescendingOrder(int members) {
        RevealBeacon x = Beacons.of(members, 2);
        for (int i = members - 1; i >= 0; i--) {
            x.setSeed(i);
            x.commit(i, 9 * i, 0);
        }
        for (int i = 0; i < members; i++) {
            int[] shares = shares(i, 9 * i, 2);
            for (int j = 0; j < members; j++) {
                due("mark(" + i + ", " + j + ") of " + members, x.mark(i, j), mark(shares[j], j));
            }
        }
    }

    /** The first share of the member 0 is 256, the greatest one. */
    private static RevealBeacon shareOf256() {
        RevealBeacon x = Beacons.of(3, 2);
        int coefficient = draw(1) / 65536 % 257;
        int secret = 256 - coefficient;
        x.commit(0, secret, 0);
        x.commit(1, 0, 0);
        return x;
    }

    private static void draws() {
        Sentences.test(SECTION, "There is a seed, 1 at first.", () -> due("the seed", new RevealBeacon().told(7), 1));
        Sentences.test(SECTION, "To draw a number below n, the seed becomes (1103515245 * seed + 12345) modulo 2147483648,"
            + " computed without overflow; the number is (seed / 65536) modulo n.", () -> {
            int[] next = {12345, 1103527590, 59559187, 212263372, 1315778617, 1749903380, 1073754169, 2087949151,
                1043980748};
            for (int i = 0; i < SEEDS.length; i++) {
                RevealBeacon x = Beacons.of(3, 2);
                due("setSeed(" + SEEDS[i] + ")", x.setSeed(SEEDS[i]), 1);
                x.commit(0, 0, 0);
                due("the seed after " + SEEDS[i], x.told(7), next[i]);
                int coefficient = next[i] / 65536 % 257;
                for (int j = 0; j < 3; j++) {
                    due("the mark", x.mark(0, j), mark(coefficient * (j + 1) % 257, j));
                }
            }
        });
    }

    private static void publishing() {
        Sentences.test(SECTION, "In the phase 2, shares of secrets that were not revealed can be published by members"
            + " that have committed themselves.", () -> {
            Checks.change("in the phase 2", Beacons::recovery, x -> x.give(0, 1), 1);
            Checks.change("by one that has not revealed", Beacons::recovery, x -> x.give(1, 2), 1);
            Checks.refused("in the phase 0", Beacons::bound, x -> x.give(0, 1), -2);
            Checks.refused("in the phase 1", Beacons::oneRevealed, x -> x.give(0, 1), -2);
            Checks.refused("in the phase 3", Beacons::closed, x -> x.give(0, 2), -2);
            Checks.refused("of a revealed secret", Beacons::recovery, x -> x.give(1, 0), -2);
            Checks.refused("by one without a commitment", Beacons::twoInRecovery, x -> x.give(2, 0), -2);
        });
    }

    private static void recovering() {
        Sentences.test(SECTION, "When T shares of a secret are published, it is recovered: it is the value at 0, modulo"
            + " 257, of the polynomial of the lowest possible degree, below T, that has the T published values at their"
            + " places modulo 257, told as a number from 0 to 256.", () -> {
            for (int members = 2; members <= 8; members++) {
                for (int threshold = 1; threshold <= members; threshold++) {
                    checkThreshold(members, threshold);
                }
            }
            int[] secrets = {0, 1, 128, 254, 255};
            for (int secret : secrets) {
                for (int givers = 0; givers < 256; givers++) {
                    checkGivers(secret, givers);
                }
            }
        });
    }

    /** One share too few, and just enough; with as many as there are members it is never enough. */
    private static void checkThreshold(int members, int threshold) {
        for (int owner = 0; owner < members; owner++) {
            RevealBeacon x = Beacons.powersLost(members, threshold);
            String what = "the secret of " + owner + " of " + members + " with T = " + threshold;
            int shares = 0;
            for (int giver = members - 1; giver >= 0 && shares < threshold; giver--) {
                if (giver != owner) {
                    due(what + ", before", x.member(owner, 3), -9);
                    due(what + ", not recovered", x.member(owner, 5), 1);
                    due(what + ", a share", x.give(giver, owner), ++shares);
                }
            }
            due(what, x.member(owner, 3), shares < threshold ? -9 : 1 << owner);
            due(what + ", how it stands", x.member(owner, 5), shares < threshold ? 1 : 3);
            due(what + ", all shares", shares, Math.min(threshold, members - 1));
        }
    }

    /** Each set of three, four or seven givers of a secret of the member 3, of eight. */
    private static void checkGivers(int secret, int givers) {
        int threshold = Integer.bitCount(givers);
        if ((givers >> 3 & 1) == 1 || threshold != 3 && threshold != 4 && threshold != 7) {
            return;
        }
        RevealBeacon x = Beacons.of(8, threshold);
        x.setSeed(secret * 1000003 + givers);
        for (int i = 0; i < 8; i++) {
            x.commit(i, i == 3 ? secret : 0, i);
        }
        x.tick(8);
        for (int giver = 0; giver < 8; giver++) {
            if ((givers >> giver & 1) == 1) {
                x.give(giver, 3);
            }
        }
        due("the secret " + secret + " by the givers " + givers, x.member(3, 3), secret);
    }

    private static void fines() {
        Sentences.test("FINES", "To fine a member means that its deposit decreases by the fine, but at most by the"
            + " deposit, and the pool increases by as much.", () -> {
            int[][] cases = {{20, 20}, {20, 19}, {19, 20}, {5, 5}, {5, 6}, {5, 4}, {1, 1}, {1, 2}, {1, 0}, {0, 0}, {0, 1},
                {0, 20}, {20, 0}};
            for (int[] c : cases) {
                checkFines(c[0], c[1]);
            }
        });
    }

    /** The fines for falsehood by reveal() and by publish(), and the fine for silence, of the poor member 0. */
    private static void checkFines(int deposit, int fine) {
        int taken = Math.min(deposit, fine);
        String what = "the deposit " + deposit + ", the fine " + fine + ": ";
        RevealBeacon x = poorInRevelations(deposit);
        x.set(4, fine);
        due(what + "reveal()", x.reveal(0, 0, 0), 0);
        checkTaken(what + "reveal()", x, deposit, taken);
        x = poorInRevelations(deposit);
        x.set(3, fine);
        Beacons.revealPower(x, 1);
        due(what + "silence", x.tick(4), 2);
        checkTaken(what + "silence", x, deposit, taken);
        x = poorInRevelations(deposit);
        x.tick(4);
        x.set(4, fine);
        due(what + "publish()", x.publish(0, 1, falseShare(x)), 0);
        checkTaken(what + "publish()", x, deposit, taken);
    }

    private static void checkTaken(String what, RevealBeacon x, int deposit, int taken) {
        due(what + ", the deposit", x.member(0, 0), deposit - taken);
        due(what + ", the pool", x.told(6), 20 - deposit + taken);
        due(what + ", the deposit of another one", x.member(1, 0), 20);
        due(what + ", the sum", x.told(12), 60);
    }

    private static RevealBeacon poorInRevelations(int deposit) {
        RevealBeacon x = Beacons.poor(deposit);
        x.commit(0, 1, 1);
        x.commit(1, 2, 1);
        x.tick(4);
        return x;
    }

    /** A share that does not have the mark of the share of the member 0 of the secret of the member 1. */
    private static int falseShare(RevealBeacon x) {
        return x.mark(1, 0) == mark(0, 0) ? 1 : 0;
    }

    private static void payingOut() {
        Sentences.test("FINES", "To pay out the pool means: with n the number of members that have revealed their secrets"
            + " in this round, each of them gets the pool divided by n, rounded down; the rest stays in the pool; if n is"
            + " 0, all of it stays.", () -> {
            for (int members = 2; members <= 8; members++) {
                for (int revealed = 0; revealed <= members; revealed++) {
                    checkPayment(members, revealed, 0);
                    checkPayment(members, revealed, revealed);
                    checkPayment(members, revealed, 20);
                }
            }
            for (int fine = 0; fine <= 20; fine++) {
                checkPayment(8, 8, fine);
            }
            recoveredAreNotPaid();
            restIsPaidLater();
        });
    }

    /** The fine for silence is 1; the member 0 is fined for falsehood before it reveals its secret or not. */
    private static void checkPayment(int members, int revealed, int falsehood) {
        RevealBeacon x = Beacons.powers(members, 2);
        x.set(3, 1);
        x.set(4, falsehood);
        x.reveal(0, 0, 999);
        for (int i = members - revealed; i < members; i++) {
            Beacons.revealPower(x, i);
        }
        x.turn(members - 1, 0);
        x.tick(8);
        int first = revealed == members ? 20 - falsehood : Math.max(0, 20 - falsehood - 1);
        int pool = 20 - first + Math.max(0, members - revealed - 1);
        int part = revealed == 0 ? 0 : pool / revealed;
        String what = revealed + " of " + members + ", the fine " + falsehood + ": ";
        due(what + "the first deposit", x.member(0, 0), first + (revealed == members ? part : 0));
        for (int i = 1; i < members; i++) {
            boolean paid = i >= members - revealed;
            due(what + "the deposit of " + i, x.member(i, 0), paid ? 20 + part : 19);
        }
        due(what + "the rest", x.told(6), pool - part * revealed);
        due(what + "the sum", x.told(12), 20 * members);
    }

    private static void recoveredAreNotPaid() {
        RevealBeacon x = Beacons.closed();
        due("revealed", x.member(0, 0), 30);
        due("recovered", x.member(1, 0), 15);
        due("lost", x.member(2, 0), 15);
        due("the rest", x.told(6), 0);
    }

    /** A rest of 1 stays, and is paid in the next round, with the next fine. */
    private static void restIsPaidLater() {
        RevealBeacon x = Beacons.poor(13);
        due("the pool of before", x.told(6), 7);
        x.commit(1, 1, 1);
        x.commit(2, 2, 2);
        x.tick(4);
        x.reveal(1, 1, 1);
        x.reveal(2, 2, 2);
        due("all revealed", x.tick(4), 3);
        due("the half", x.member(1, 0), 23);
        due("the half", x.member(2, 0), 23);
        due("nothing without a commitment", x.member(0, 0), 13);
        due("the rest", x.told(6), 1);
        x.next();
        due("the rest in the next round", x.told(6), 1);
        x.commit(0, 1, 1);
        x.commit(1, 1, 1);
        x.set(3, 2);
        x.tick(4);
        x.reveal(0, 1, 1);
        x.tick(8);
        due("the rest and the fine", x.member(0, 0), 16);
        due("nothing stays", x.told(6), 0);
    }

    private static void output() {
        Sentences.test("OUTPUT", "The output is the exclusive or of the secrets of all members that have committed"
            + " themselves, as far as they are revealed or recovered.", () -> {
            due("revealed and recovered, without the lost one", Beacons.closed().told(11), 100 ^ 7);
            for (int revealed = 1; revealed < 256; revealed++) {
                RevealBeacon x = Beacons.powers(8, 8);
                for (int i = 0; i < 8; i++) {
                    if ((revealed >> i & 1) == 1) {
                        Beacons.revealPower(x, i);
                    }
                }
                due("closed", x.tick(8), 3);
                due("the output", x.told(11), revealed);
            }
            RevealBeacon x = Beacons.revelations();
            x.reveal(0, 1, 556);
            x.reveal(1, 7, 999);
            x.tick(8);
            due("another pair revealed", x.told(11), 1 ^ 7);
            x = Beacons.of(3, 1);
            x.commit(0, 9, 0);
            x.commit(2, 9, 0);
            x.tick(4);
            x.reveal(2, 9, 0);
            x.tick(4);
            x.give(2, 0);
            x.tick(4);
            due("two that are the same", x.told(11), 0);
        });
        Sentences.test("OUTPUT", "With the strictness 1, it is NONE if one of them is neither;", () -> {
            due("none known of 2", outputOf(2, 0, 1), -9);
            due("one known of 2", outputOf(2, 1, 1), -9);
            due("two known of 2", outputOf(2, 2, 1), 3);
            due("none known of 8", outputOf(8, 0, 1), -9);
            due("one known of 8", outputOf(8, 1, 1), -9);
            due("seven known of 8", outputOf(8, 7, 1), -9);
            due("all known of 8", outputOf(8, 8, 1), 255);
            checkRecoveredOutput(1, -9, 3);
        });
        Sentences.test("OUTPUT", "with the strictness 0, it is NONE if all of them are neither.", () -> {
            due("none known of 2", outputOf(2, 0, 0), -9);
            due("one known of 2", outputOf(2, 1, 0), 1);
            due("two known of 2", outputOf(2, 2, 0), 3);
            due("none known of 8", outputOf(8, 0, 0), -9);
            due("one known of 8", outputOf(8, 1, 0), 1);
            due("seven known of 8", outputOf(8, 7, 0), 127);
            due("all known of 8", outputOf(8, 8, 0), 255);
            checkRecoveredOutput(0, 2, 3);
        });
    }

    /** The output of some members that are all committed, of which some reveal and nothing is published. */
    private static int outputOf(int members, int revealed, int strictness) {
        RevealBeacon x = Beacons.powers(members, 2);
        x.set(5, strictness);
        for (int i = 0; i < revealed; i++) {
            Beacons.revealPower(x, i);
        }
        x.tick(8);
        return x.told(11);
    }

    /** Nothing revealed; the secret of the member 1 is recovered, then that of the member 0, too. */
    private static void checkRecoveredOutput(int strictness, int wantOfOne, int wantOfBoth) {
        RevealBeacon x = Beacons.of(3, 1);
        x.set(5, strictness);
        x.commit(0, 1, 0);
        x.commit(1, 2, 0);
        x.tick(8);
        due("give(0, 1)", x.give(0, 1), 1);
        x.tick(4);
        due("one recovered", x.told(11), wantOfOne);
        due("undo()", x.undo(), 6);
        due("give(1, 0)", x.give(1, 0), 1);
        x.tick(4);
        due("both recovered", x.told(11), wantOfBoth);
    }
}
