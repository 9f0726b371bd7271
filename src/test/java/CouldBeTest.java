/** Promises 22 to 25. */
public final class CouldBeTest {
    public static void main(String[] args) {
        honest();
        outcomeOfRevelations();
        outcomeOfRecovery();
        outcomeWhenClosed();
        influence();
        influenceOfOthers();
        influenceWithStrictness();
        influenceRefused();
        mean();
        Checks.finish("CouldBeTest");
    }

    private static void due(String call, long got, long want) {
        Checks.due(call, got, want);
    }

    private static void honest() {
        Checks.query("honest() in 0", Beacons::bound, x -> x.honest(), RevealBeacon.STATE);
        Checks.query("honest() in 1", Beacons::revelations, x -> x.honest(), 100 ^ 7 ^ 255);
        Checks.query("honest() in 2", Beacons::recovery, x -> x.honest(), 100 ^ 7 ^ 255);
        Checks.query("honest() in 3", Beacons::closed, x -> x.honest(), 100 ^ 7 ^ 255);
        Checks.query("honest() with one", Beacons::failed, x -> x.honest(), RevealBeacon.STATE);
        RevealBeacon x = new RevealBeacon();
        x.commit(2, 100, 5);
        x.commit(1, 7, 999);
        x.tick(4);
        due("honest() of two", x.honest(), 99);
        x = Beacons.of(8, 8);
        x.set(5, 1);
        x.commit(7, 128, 0);
        x.commit(2, 128, 0);
        x.tick(4);
        x.turn(7, 0);
        due("honest() of two that are equal", x.honest(), 0);
        x = new RevealBeacon();
        x.tick(4);
        due("honest() with none", x.honest(), RevealBeacon.STATE);
    }

    private static void outcomeOfRevelations() {
        Checks.query("outcome() in 0", Beacons::bound, x -> x.outcome(), RevealBeacon.STATE);
        Checks.query("outcome() in 1", Beacons::revelations, x -> x.outcome(), 100 ^ 7 ^ 255);
        RevealBeacon x = Beacons.powers(5, 3);
        due("all recovered", x.outcome(), 31);
        x.turn(4, 0);
        due("one off, the others have three", x.outcome(), 31);
        x.turn(3, 0);
        due("two off, only theirs are recovered", x.outcome(), 8 + 16);
        Beacons.revealPower(x, 0);
        due("one revealed", x.outcome(), 1 + 8 + 16);
        x.set(5, 1);
        due("with strictness", x.outcome(), RevealBeacon.NONE);
        Beacons.revealPower(x, 1);
        Beacons.revealPower(x, 2);
        due("none lost", x.outcome(), 31);
        x.turn(2, 0);
        due("two that are off lost", x.outcome(), RevealBeacon.NONE);
        x.set(5, 0);
        due("two that are off lost", x.outcome(), 7);
        x = Beacons.powers(3, 3);
        due("none can be recovered", x.outcome(), RevealBeacon.NONE);
        x = Beacons.of(4, 2);
        x.commit(0, 1, 1);
        x.commit(1, 2, 2);
        x.tick(4);
        due("those without a commitment have no shares", x.outcome(), RevealBeacon.NONE);
        x = Beacons.of(4, 1);
        x.commit(0, 1, 1);
        x.commit(1, 2, 2);
        x.tick(4);
        due("one share is enough", x.outcome(), 3);
    }

    private static void outcomeOfRecovery() {
        Checks.query("outcome() in 2", Beacons::recovery, x -> x.outcome(), 100 ^ 7 ^ 255);
        RevealBeacon x = Beacons.powers(5, 3);
        Beacons.revealPower(x, 4);
        x.tick(4);
        due("give(3, 0)", x.give(3, 0), 1);
        x.turn(3, 0);
        x.turn(4, 0);
        due("its share counts for 0, and those of 0, 1, 2 for 3", x.outcome(), 1 + 8 + 16);
        x.set(5, 1);
        due("two are lost", x.outcome(), RevealBeacon.NONE);
        x.turn(4, 1);
        due("three shares for each", x.outcome(), 31);
        due("nothing is published by it", x.member(0, 4), 1);
        x.give(1, 0);
        x.give(2, 0);
        due("recovered", x.member(0, 5), 3);
        due("recovered ones count", x.outcome(), 31);
    }

    private static void outcomeWhenClosed() {
        Checks.query("outcome() in 3", Beacons::closed, x -> x.outcome(), 99);
        Checks.query("outcome() of a failed round", Beacons::failed, x -> x.outcome(), RevealBeacon.NONE);
        RevealBeacon x = Beacons.closed();
        x.next();
        due("outcome() of the next round", x.outcome(), RevealBeacon.STATE);
        x.tick(4);
        due("outcome() of a failed second round", x.outcome(), RevealBeacon.NONE);
    }

    private static void influence() {
        Checks.query("influence(0)", Beacons::revelations, x -> x.influence(0), 1);
        RevealBeacon x = Beacons.revelations();
        x.turn(2, 0);
        due("only one could publish", x.influence(1), 2);
        x.turn(2, 1);
        due("two could publish", x.influence(1), 1);
        x = Beacons.powers(3, 3);
        due("nothing is recovered", x.influence(2), 2);
        x = Beacons.of(3, 3);
        x.commit(0, 0, 1);
        x.commit(1, 5, 1);
        x.commit(2, 6, 1);
        x.tick(4);
        due("a secret of 0", x.influence(0), 1);
        due("a secret of 5", x.influence(1), 2);
    }

    /** The member's own shares are missing in both cases, those of members that are off, too. */
    private static void influenceOfOthers() {
        RevealBeacon x = Beacons.powers(4, 2);
        x.turn(3, 0);
        due("two others recover it", x.influence(0), 1);
        x.turn(2, 0);
        due("one other does not", x.influence(0), 2);
        x = Beacons.of(3, 2);
        x.commit(0, 6, 1);
        x.commit(1, 5, 1);
        x.tick(4);
        x.reveal(1, 5, 1);
        due("the revealed one has one share", x.influence(0), 2);
        x = Beacons.of(2, 1);
        x.commit(0, 0, 1);
        x.commit(1, 7, 1);
        x.tick(4);
        x.turn(1, 0);
        due("no output against an output of 0", x.influence(0), 2);
        x.turn(1, 1);
        due("an output of 7 in both cases", x.influence(0), 1);
        x = Beacons.of(2, 2);
        x.commit(0, 5, 1);
        x.commit(1, 0, 1);
        x.tick(4);
        due("the other one reveals its secret", x.influence(1), 1);
        x.turn(0, 0);
        due("the other one can't", x.influence(1), 2);
    }

    private static void influenceWithStrictness() {
        RevealBeacon x = Beacons.of(3, 3);
        x.commit(0, 0, 1);
        x.commit(1, 5, 1);
        x.commit(2, 6, 1);
        x.tick(4);
        x.set(5, 1);
        due("an output against none", x.influence(0), 2);
        x.turn(2, 0);
        due("none in both cases", x.influence(1), 1);
        x.set(5, 0);
        due("without strictness", x.influence(1), 2);
    }

    private static void influenceRefused() {
        int[] bad = {3, -1, Integer.MAX_VALUE, Integer.MIN_VALUE};
        for (int b : bad) {
            Checks.refused("influence(" + b + ")", Beacons::revelations, x -> x.influence(b), RevealBeacon.BAD);
            Checks.refused("influence(" + b + ")", Beacons::fresh, x -> x.influence(b), RevealBeacon.BAD);
        }
        Checks.refused("influence(1) in 0", Beacons::bound, x -> x.influence(1), RevealBeacon.STATE);
        Checks.refused("influence(1) in 2", Beacons::recovery, x -> x.influence(1), RevealBeacon.STATE);
        Checks.refused("influence(2) in 3", Beacons::closed, x -> x.influence(2), RevealBeacon.STATE);
        RevealBeacon x = Beacons.of(4, 2);
        x.commit(0, 1, 1);
        x.commit(1, 2, 2);
        x.commit(2, 3, 3);
        x.tick(4);
        due("without a commitment", x.influence(3), RevealBeacon.STATE);
        x.reveal(0, 1, 1);
        due("revealed", x.influence(0), RevealBeacon.STATE);
        x.turn(1, 0);
        due("off", x.influence(1), RevealBeacon.STATE);
    }

    private static void mean() {
        RevealBeacon x = new RevealBeacon();
        dueMean(x, 20.0f);
        x.pay(0, 1);
        dueMean(x, 61.0f / 3.0f);
        x.pay(2, 50);
        dueMean(x, 111.0f / 3.0f);
        x.pay(2, 1);
        dueMean(x, 112.0f / 3.0f);
        x = Beacons.of(7, 1);
        x.pay(6, 10);
        dueMean(x, 150.0f / 7.0f);
        x = Beacons.recovery();
        dueMean(x, 50.0f / 3.0f);
    }

    private static void dueMean(RevealBeacon x, float want) {
        float got = x.mean();
        due("mean() as bits, due is " + want, Float.floatToIntBits(got), Float.floatToIntBits(want));
    }
}
