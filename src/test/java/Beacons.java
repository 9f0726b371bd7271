/** Beacons from which the tests begin, each made anew. */
final class Beacons {
    private Beacons() {
    }

    static RevealBeacon fresh() {
        return new RevealBeacon();
    }

    static RevealBeacon of(int members, int threshold) {
        RevealBeacon x = new RevealBeacon();
        Checks.due("begin(" + members + ", " + threshold + ")", x.begin(members, threshold), 1);
        return x;
    }

    /** 3 members, committed to 100, 7 and 255, in the phase 0. */
    static RevealBeacon bound() {
        RevealBeacon x = new RevealBeacon();
        x.commit(0, 100, 5);
        x.commit(1, 7, 999);
        x.commit(2, 255, 0);
        return x;
    }

    /** The same in the phase 1, nothing revealed. */
    static RevealBeacon revelations() {
        RevealBeacon x = bound();
        x.tick(4);
        return x;
    }

    /** The same, the member 0 has revealed its secret. */
    static RevealBeacon oneRevealed() {
        RevealBeacon x = revelations();
        x.reveal(0, 100, 5);
        return x;
    }

    /** The same in the phase 2, the other two members are fined: a pool of 10. */
    static RevealBeacon recovery() {
        RevealBeacon x = oneRevealed();
        x.tick(4);
        return x;
    }

    /** The same, the member 2 has published its share of the secret of the member 1, which is 62. */
    static RevealBeacon oneShare() {
        RevealBeacon x = recovery();
        x.give(2, 1);
        return x;
    }

    /** The same in the phase 3, the secret of the member 1 recovered, that of the member 2 lost. */
    static RevealBeacon closed() {
        RevealBeacon x = recovery();
        x.give(0, 1);
        x.give(2, 1);
        x.tick(4);
        return x;
    }

    /** The same in the phase 0 of the second round. */
    static RevealBeacon secondRound() {
        RevealBeacon x = closed();
        x.next();
        return x;
    }

    /** In the phase 3 of a round that failed, with one commitment. */
    static RevealBeacon failed() {
        RevealBeacon x = new RevealBeacon();
        x.commit(0, 100, 5);
        x.tick(4);
        return x;
    }

    /** The members 0 and 1 of three are committed, in the phase 1. */
    static RevealBeacon twoInRevelations() {
        RevealBeacon x = new RevealBeacon();
        x.commit(0, 100, 5);
        x.commit(1, 7, 999);
        x.tick(4);
        return x;
    }

    static RevealBeacon twoInRecovery() {
        RevealBeacon x = twoInRevelations();
        x.tick(4);
        return x;
    }

    /** The member i is committed to the secret 2 to the power i with the salt i, in the phase 0. */
    static RevealBeacon powersBound(int members, int threshold) {
        RevealBeacon x = of(members, threshold);
        for (int i = 0; i < members; i++) {
            x.commit(i, 1 << i, i);
        }
        return x;
    }

    /** The same in the phase 1. */
    static RevealBeacon powers(int members, int threshold) {
        RevealBeacon x = powersBound(members, threshold);
        x.tick(4);
        return x;
    }

    /** The same in the phase 2, nothing revealed. */
    static RevealBeacon powersLost(int members, int threshold) {
        RevealBeacon x = powers(members, threshold);
        x.tick(4);
        return x;
    }

    static void revealPower(RevealBeacon x, int member) {
        Checks.due("reveal of " + member, x.reveal(member, 1 << member, member), 1);
    }

    /** Three members in the phase 0 of the second round, the member 0 with this deposit, 0 to 20; the rest is pooled. */
    static RevealBeacon poor(int deposit) {
        RevealBeacon x = new RevealBeacon();
        x.set(3, 0);
        x.set(4, 20 - deposit);
        x.commit(0, 1, 1);
        x.commit(1, 2, 2);
        x.tick(4);
        x.reveal(0, 0, 0);
        x.tick(8);
        x.next();
        Checks.due("the deposit of the poor one", x.member(0, 0), deposit);
        Checks.due("the pool", x.told(6), 20 - deposit);
        return x;
    }

    /** The member 0 has 970. */
    static RevealBeacon rich() {
        RevealBeacon x = new RevealBeacon();
        for (int i = 0; i < 19; i++) {
            x.pay(0, 50);
        }
        return x;
    }

    /** In the phase 3 of the round with this number, all of which failed. */
    static RevealBeacon round(int number) {
        RevealBeacon x = new RevealBeacon();
        x.set(0, 1);
        x.tick(1);
        for (int round = 1; round <= number; round++) {
            Checks.due("next()", x.next(), round);
            Checks.due("tick(1)", x.tick(1), 3);
        }
        return x;
    }

    /** In the last round that there can be, the 30th, in the phase 3. */
    static RevealBeacon lastRound() {
        return round(29);
    }

    /** The same in the phase 0. */
    static RevealBeacon lastRoundOpen() {
        RevealBeacon x = round(28);
        x.next();
        return x;
    }
}
