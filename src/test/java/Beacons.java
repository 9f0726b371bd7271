/** Beacons from which the tests begin, each made anew. */
final class Beacons {
    private Beacons() {
    }

    static RevealBeacon fresh() {
        return new RevealBeacon();
    }

    static RevealBeacon of(int members, int threshold) {
        RevealBeacon x = new RevealBeacon();
        x.begin(members, threshold);
        return x;
    }

    /** 3 members, committed to 100, 7 and 255, in the phase 0. */
    static RevealBeacon bound() {
        RevealBeacon x = new RevealBeacon();
        x.commit(0, 100, 5);
        x.commit(1, 7, 999);
        x.commit(2, 255, 0);
        return x;
    }

    /** The same in the phase 1, nothing revealed. */
    static RevealBeacon revelations() {
        RevealBeacon x = bound();
        x.tick(4);
        return x;
    }

    /** The same in the phase 2, the member 0 has revealed its secret, the other two are fined. */
    static RevealBeacon recovery() {
        RevealBeacon x = revelations();
        x.reveal(0, 100, 5);
        x.tick(4);
        return x;
    }

    /** The same in the phase 3, the secret of the member 1 recovered, that of the member 2 lost. */
    static RevealBeacon closed() {
        RevealBeacon x = recovery();
        x.give(0, 1);
        x.give(2, 1);
        x.tick(4);
        return x;
    }

    /** In the phase 3 of a round that failed. */
    static RevealBeacon failed() {
        RevealBeacon x = new RevealBeacon();
        x.commit(0, 100, 5);
        x.tick(4);
        return x;
    }

    /** The member i is committed to the secret 2 to the power i with the salt i, in the phase 1. */
    static RevealBeacon powers(int members, int threshold) {
        RevealBeacon x = of(members, threshold);
        for (int i = 0; i < members; i++) {
            x.commit(i, 1 << i, i);
        }
        x.tick(4);
        return x;
    }

    static void revealPower(RevealBeacon x, int member) {
        Checks.due("reveal of " + member, x.reveal(member, 1 << member, member), 1);
    }

    /** In the last round that there can be, the number 29, in the phase 3. */
    static RevealBeacon lastRound() {
        RevealBeacon x = new RevealBeacon();
        x.set(0, 1);
        x.tick(1);
        for (int round = 1; round < 30; round++) {
            Checks.due("next()", x.next(), round);
            Checks.due("tick(1)", x.tick(1), 3);
        }
        return x;
    }
}
