/** Promises 22 to 25. */
final class CouldBeCases {
    private CouldBeCases() {
    }

    static void run() {
        honest();
        outcome();
        outcomeBySharesOfOthers();
        outcomeReturned();
        influence();
        influenceOfShares();
        influenceReturned();
        influenceRefused();
        mean();
    }

    private static void due(String call, long got, long want) {
        Checks.due(call, got, want);
    }

    /** In the phase 1 of three members, of which some have committed themselves. */
    private static RevealBeacon committed(int count) {
        RevealBeacon x = new RevealBeacon();
        for (int i = 0; i < count; i++) {
            x.commit(i, 1 << i, i);
        }
        x.tick(4);
        return x;
    }

    private static RevealBeacon strict(RevealBeacon x) {
        due("set(5, 1)", x.set(5, 1), 0);
        return x;
    }

    private static void honest() {
        String section = "Promise 22: honest";
        Sentences.test(section, "Tells what the output would be if all members that have committed themselves revealed the"
            + " secrets to which they have committed themselves.", () -> {
            Checks.query("in 1, nothing revealed", Beacons::revelations, x -> x.honest(), 100 ^ 7 ^ 255);
            Checks.query("in 1, one revealed", Beacons::oneRevealed, x -> x.honest(), 100 ^ 7 ^ 255);
            Checks.query("in 2", Beacons::recovery, x -> x.honest(), 100 ^ 7 ^ 255);
            Checks.query("in 3, one lost", Beacons::closed, x -> x.honest(), 100 ^ 7 ^ 255);
            Checks.query("with strictness", () -> strict(Beacons.closed()), x -> x.honest(), 100 ^ 7 ^ 255);
            RevealBeacon x = Beacons.revelations();
            x.reveal(0, 1, 556);
            due("another pair revealed", x.honest(), 100 ^ 7 ^ 255);
            x.turn(2, 0);
            due("one that is off", x.honest(), 100 ^ 7 ^ 255);
        });
        Sentences.test(section, "Returns the output;", () -> {
            for (int m = 2; m <= 8; m++) {
                due("honest() of " + m, Beacons.powers(m, 1).honest(), (1 << m) - 1);
            }
            RevealBeacon x = Beacons.of(8, 8);
            x.commit(7, 128, 0);
            x.commit(2, 128, 0);
            x.tick(4);
            due("two that are the same", x.honest(), 0);
        });
        Sentences.test(section, "STATE if the phase is 0, or less than 2 members have committed themselves.", () -> {
            Checks.refused("in 0", Beacons::bound, x -> x.honest(), -2);
            Checks.refused("in 0, nobody", Beacons::fresh, x -> x.honest(), -2);
            Checks.refused("in 0 of the next round", Beacons::secondRound, x -> x.honest(), -2);
            Checks.refused("in 3, nobody", () -> committed(0), x -> x.honest(), -2);
            Checks.refused("in 3, one", () -> committed(1), x -> x.honest(), -2);
            Checks.query("two", () -> committed(2), x -> x.honest(), 3);
        });
    }

    private static void outcome() {
        String section = "Promise 23: outcome";
        Sentences.test(section, "Tells the output that there would be if the phase ended now, no further secret were"
            + " revealed,", () -> {
            RevealBeacon x = Beacons.powers(3, 3);
            due("nothing revealed, nothing to recover", x.outcome(), -9);
            Beacons.revealPower(x, 1);
            due("one revealed", x.outcome(), 2);
            Beacons.revealPower(x, 2);
            due("two revealed", x.outcome(), 6);
            x.turn(2, 0);
            due("a revealed one that is off", x.outcome(), 6);
            Beacons.revealPower(x, 0);
            due("all revealed", x.outcome(), 7);
            due("nothing has ended", x.told(4), 1);
            due("nobody was fined", x.told(6), 0);
            x = Beacons.revelations();
            x.reveal(0, 1, 556);
            due("another pair revealed", x.outcome(), 1 ^ 7 ^ 255);
        });
        Sentences.test(section, "that is neither revealed nor recovered,", () -> {
            RevealBeacon x = Beacons.powersLost(5, 3);
            due("nothing known", x.outcome(), 31);
            x.give(1, 0);
            x.give(2, 0);
            x.give(3, 0);
            due("recovered", x.member(0, 5), 3);
            x.turn(1, 0);
            x.turn(2, 0);
            x.turn(3, 0);
            due("the recovered one counts when the others can't be", x.outcome(), 1);
            due("its shares are as before", x.member(0, 4), 3);
        });
        Sentences.test(section, "in ascending order of the members, until it is recovered.", () -> {
            RevealBeacon x = Beacons.powersLost(8, 3);
            due("all are recovered", x.outcome(), 255);
            due("nothing is published by it", x.member(0, 4), 0);
            x.give(7, 0);
            due("a share of the last one, before", x.outcome(), 255);
            due("nothing more is published", x.member(0, 4), 1);
            x.turn(1, 0);
            x.turn(2, 0);
            x.turn(3, 0);
            x.turn(4, 0);
            x.turn(5, 0);
            x.turn(6, 0);
            due("the shares of 0 and 7 are too few but for nobody", x.outcome(), -9);
            x.turn(6, 1);
            due("of three for the five that are off", x.outcome(), 2 + 4 + 8 + 16 + 32);
        });
    }

    private static void outcomeBySharesOfOthers() {
        String section = "Promise 23: outcome";
        Sentences.test(section, "and then the members that are on and have committed themselves published their true"
            + " shares of each secret of another member", () -> {
            RevealBeacon x = Beacons.powers(5, 3);
            due("four others for each", x.outcome(), 31);
            x.turn(4, 0);
            due("three others at least", x.outcome(), 31);
            x.turn(3, 0);
            due("three others for those that are off", x.outcome(), 8 + 16);
            Beacons.revealPower(x, 0);
            due("one revealed", x.outcome(), 1 + 8 + 16);
            x.turn(0, 0);
            due("two others", x.outcome(), 1);
            x = Beacons.of(4, 2);
            x.commit(0, 1, 1);
            x.commit(1, 2, 2);
            x.tick(4);
            due("no shares without a commitment", x.outcome(), -9);
            for (int m = 2; m <= 8; m++) {
                for (int t = 1; t <= m; t++) {
                    int want = t < m ? (1 << m) - 1 : -9;
                    due("outcome() of " + m + " with T = " + t, Beacons.powers(m, t).outcome(), want);
                    due("in the phase 2", Beacons.powersLost(m, t).outcome(), want);
                }
            }
        });
        Sentences.test(section, "and then the members that are on and have committed themselves published their true"
            + " shares of each secret of another member", () -> {
            RevealBeacon x = Beacons.powers(5, 3);
            Beacons.revealPower(x, 4);
            x.tick(4);
            due("give(3, 0)", x.give(3, 0), 1);
            x.turn(3, 0);
            x.turn(4, 0);
            due("its share counts for 0, and those of 0, 1, 2 for 3", x.outcome(), 1 + 8 + 16);
            x.turn(4, 1);
            due("three shares for each", x.outcome(), 31);
            due("a false share", x.publish(1, 0, 0), 0);
            due("does not matter", x.outcome(), 31);
        });
    }

    private static void outcomeReturned() {
        String section = "Promise 23: outcome";
        Sentences.test(section, "Returns the output, or NONE, as described above;", () -> {
            Checks.query("in 1", Beacons::revelations, x -> x.outcome(), 100 ^ 7 ^ 255);
            Checks.query("in 2", Beacons::recovery, x -> x.outcome(), 100 ^ 7 ^ 255);
            RevealBeacon x = strict(Beacons.powers(3, 3));
            due("strict, nothing known", x.outcome(), -9);
            Beacons.revealPower(x, 0);
            Beacons.revealPower(x, 1);
            due("strict, one neither", x.outcome(), -9);
            x.set(5, 0);
            due("not strict, one neither", x.outcome(), 3);
            x.set(5, 1);
            Beacons.revealPower(x, 2);
            due("strict, all revealed", x.outcome(), 7);
            Checks.query("strict, all recovered", () -> strict(Beacons.powersLost(4, 3)), y -> y.outcome(), 15);
            x = Beacons.of(2, 1);
            x.commit(0, 5, 0);
            x.commit(1, 5, 0);
            x.tick(4);
            due("an output of 0", x.outcome(), 0);
        });
        Sentences.test(section, "in the phase 3 that of this round;", () -> {
            Checks.query("in 3, one lost", Beacons::closed, x -> x.outcome(), 99);
            Checks.query("in 3, strict afterwards", () -> strict(Beacons.closed()), x -> x.outcome(), 99);
            Checks.query("in 3, failed", Beacons::failed, x -> x.outcome(), -9);
            Checks.query("in 3, failed, nobody", () -> committed(0), x -> x.outcome(), -9);
            RevealBeacon x = Beacons.powersLost(4, 1);
            x.tick(4);
            due("nothing is recovered any more", x.outcome(), -9);
            x = Beacons.secondRound();
            x.tick(4);
            due("not that of the first round", x.outcome(), -9);
        });
        Sentences.test(section, "STATE if the phase is 0.", () -> {
            Checks.refused("in 0", Beacons::bound, x -> x.outcome(), -2);
            Checks.refused("in 0, nobody", Beacons::fresh, x -> x.outcome(), -2);
            Checks.refused("in 0 of the next round", Beacons::secondRound, x -> x.outcome(), -2);
        });
    }

    private static void influence() {
        String section = "Promise 24: influence";
        Sentences.test(section, "Counts the outputs that a member could bring about by revealing or by being silent: those"
            + " that there would be, with the secrets to which members have committed themselves,", () -> {
            for (int m = 2; m <= 8; m++) {
                for (int t = 1; t <= m; t++) {
                    RevealBeacon x = Beacons.powers(m, t);
                    for (int i = 0; i < m; i++) {
                        String call = "influence(" + i + ") of " + m + " with T = " + t;
                        due(call, x.influence(i), t < m ? 1 : 2);
                    }
                }
            }
            RevealBeacon x = Beacons.powers(3, 3);
            due("another pair of 1", x.commitment(0, 1, 0), 36);
            x = Beacons.revelations();
            x.reveal(0, 1, 556);
            due("another pair revealed by another one", x.influence(1), 1);
        });
        Sentences.test(section, "if all other members that are on and have not revealed theirs yet revealed them now,",
            () -> {
            RevealBeacon x = strict(Beacons.powers(3, 3));
            due("all others reveal theirs", x.influence(0), 2);
            Beacons.revealPower(x, 1);
            due("one has done it", x.influence(0), 2);
            x.turn(1, 0);
            due("one that has revealed is off", x.influence(0), 2);
            x.turn(2, 0);
            due("one that has not is off, and it is NONE", x.influence(0), 1);
            x = Beacons.of(2, 2);
            x.commit(0, 5, 1);
            x.commit(1, 0, 1);
            x.tick(4);
            due("the other one reveals its secret, this one is 0", x.influence(1), 1);
            x.turn(0, 0);
            due("the other one does not: 0 or NONE", x.influence(1), 2);
            for (int last = 1; last < 8; last++) {
                x = strict(Beacons.powers(8, 2));
                for (int i = 1; i < 8; i++) {
                    if (i != last) {
                        Beacons.revealPower(x, i);
                        x.turn(i, 0);
                    }
                }
                due("the member " + last + " alone reveals its secret: 255 or NONE", x.influence(0), 2);
                x.turn(last, 0);
                due("it can't: NONE in both cases", x.influence(0), 1);
            }
        });
        Sentences.test(section, "this one revealed its secret or not,", () -> {
            RevealBeacon x = Beacons.of(3, 3);
            x.commit(0, 0, 1);
            x.commit(1, 1, 1);
            x.commit(2, 255, 1);
            x.tick(4);
            due("a secret of 0", x.influence(0), 1);
            due("a secret of 1", x.influence(1), 2);
            due("a secret of 255", x.influence(2), 2);
            due("nothing is revealed by it", x.told(9), 0);
        });
    }

    private static void influenceOfShares() {
        String section = "Promise 24: influence";
        Sentences.test(section, "and then everything happened as for outcome(), where this member publishes no shares.",
            () -> {
            RevealBeacon x = Beacons.powers(4, 2);
            x.turn(3, 0);
            due("two others recover it", x.influence(0), 1);
            x.turn(2, 0);
            due("one other does not", x.influence(0), 2);
            x = strict(Beacons.powers(3, 2));
            x.turn(2, 0);
            due("its own share for 2 is missing: NONE in both cases", x.influence(0), 1);
            x.turn(2, 1);
            due("all are known in both cases", x.influence(0), 1);
            x = strict(Beacons.powers(4, 2));
            x.turn(3, 0);
            due("1 and 2 recover 3 and 0", x.influence(0), 1);
            x = strict(Beacons.powers(4, 3));
            x.turn(3, 0);
            due("1 and 2 are too few for 3, and for 0: NONE in both cases", x.influence(0), 1);
            x.set(5, 0);
            due("without strictness", x.influence(0), 2);
            x = Beacons.of(3, 2);
            x.commit(0, 6, 1);
            x.commit(1, 5, 1);
            x.tick(4);
            x.reveal(1, 5, 1);
            due("the revealed one has one share, the third none", x.influence(0), 2);
            x = Beacons.of(2, 1);
            x.commit(0, 0, 1);
            x.commit(1, 7, 1);
            x.tick(4);
            x.turn(1, 0);
            due("its own share is missing: 0 or NONE", x.influence(0), 2);
            x.turn(1, 1);
            due("7 in both cases", x.influence(0), 1);
            due("nothing is published by it", x.member(1, 4), 0);
        });
    }

    private static void influenceReturned() {
        String section = "Promise 24: influence";
        Sentences.test(section, "- `member`: the member", () -> {
            Checks.query("influence(0)", () -> Beacons.powers(8, 7), x -> x.influence(0), 1);
            Checks.query("influence(7)", () -> Beacons.powers(8, 8), x -> x.influence(7), 2);
            Checks.refused("influence(8)", () -> Beacons.powers(8, 7), x -> x.influence(8), -1);
        });
        Sentences.test(section, "Returns 1 if both outputs are the same (also if both are NONE), otherwise 2;", () -> {
            Checks.query("the same", Beacons::revelations, x -> x.influence(0), 1);
            Checks.query("two outputs", () -> Beacons.powers(3, 3), x -> x.influence(0), 2);
            Checks.query("an output and NONE", () -> strict(Beacons.powers(3, 3)), x -> x.influence(0), 2);
            RevealBeacon x = strict(Beacons.powers(3, 3));
            x.turn(2, 0);
            due("both are NONE", x.influence(0), 1);
        });
    }

    private static void influenceRefused() {
        String section = "Promise 24: influence";
        Sentences.test(section, "BAD if there is no such member;", () -> {
            int[] out = {3, -1, 8, Integer.MAX_VALUE, Integer.MIN_VALUE};
            for (int i : out) {
                Checks.refused("influence(" + i + ")", Beacons::revelations, x -> x.influence(i), -1);
                Checks.refused("influence(" + i + ") in 0", Beacons::fresh, x -> x.influence(i), -1);
            }
        });
        Sentences.test(section, "STATE if the phase is not 1,", () -> {
            Checks.refused("in 0", Beacons::bound, x -> x.influence(1), -2);
            Checks.query("at the last tick of 1", CouldBeCases::beforeRecovery, x -> x.influence(1), 1);
            Checks.refused("in 2", Beacons::recovery, x -> x.influence(1), -2);
            Checks.refused("in 3", Beacons::closed, x -> x.influence(2), -2);
            Checks.refused("in 3, failed", Beacons::failed, x -> x.influence(0), -2);
        });
        Sentences.test(section, "the member is off,", () -> {
            RevealBeacon x = Beacons.revelations();
            x.turn(1, 0);
            due("off", x.influence(1), -2);
            due("another one", x.influence(0), 2);
            x.turn(1, 1);
            due("on again", x.influence(1), 1);
        });
        Sentences.test(section, "has not committed itself,", () -> {
            Checks.refused("no commitment", Beacons::twoInRevelations, x -> x.influence(2), -2);
            RevealBeacon x = Beacons.secondRound();
            x.commit(0, 1, 1);
            x.commit(1, 1, 1);
            x.tick(4);
            due("one of the first round", x.influence(2), -2);
        });
        Sentences.test(section, "or its secret is revealed.", () -> {
            Checks.refused("revealed", Beacons::oneRevealed, x -> x.influence(0), -2);
            RevealBeacon x = Beacons.revelations();
            x.reveal(0, 0, 0);
            due("only fined", x.influence(0), 1);
        });
    }

    private static RevealBeacon beforeRecovery() {
        RevealBeacon x = Beacons.revelations();
        x.tick(3);
        return x;
    }

    private static void mean() {
        Sentences.test("Promise 25: mean", "Returns the mean of all deposits, as a float: their sum divided by M, both"
            + " converted to float. Returns the mean.", () -> {
            for (int m = 2; m <= 8; m++) {
                RevealBeacon x = Beacons.of(m, 1);
                dueMean(x, 20.0f);
                for (int k = 1; k <= 50; k++) {
                    x.pay(k % m, k);
                    dueMean(x, (20.0f * m + k * (k + 1) / 2) / (float) m);
                }
            }
            RevealBeacon x = Beacons.recovery();
            dueMean(x, 50.0f / 3.0f);
            x.turn(0, 0);
            dueMean(x, 50.0f / 3.0f);
            x = Beacons.revelations();
            x.set(3, 20);
            x.tick(4);
            dueMean(x, 0.0f);
            x.pay(2, 1);
            dueMean(x, 1.0f / 3.0f);
        });
    }

    private static void dueMean(RevealBeacon x, float want) {
        float got = x.mean();
        due("mean() as bits, due is " + want, Float.floatToIntBits(got), Float.floatToIntBits(want));
    }
}
