/** Promises 26 and 27. */
public final class ImagesTest {
    private static final int[] ODD = {2, -1, Integer.MAX_VALUE, Integer.MIN_VALUE};

    public static void main(String[] args) {
        keep();
        keepReplaces();
        back();
        backIsRecorded();
        backRefused();
        keepsEverything();
        Checks.finish("ImagesTest");
    }

    private static void due(String call, long got, long want) {
        Checks.due(call, got, want);
    }

    private static void keep() {
        Checks.query("keep(0)", Beacons::closed, x -> x.keep(0), 0);
        Checks.query("keep(1)", Beacons::closed, x -> x.keep(1), 0);
        RevealBeacon x = Beacons.closed();
        x.next();
        due("keep(1) in the second round", x.keep(1), 1);
        for (int odd : ODD) {
            Checks.refused("keep(" + odd + ")", Beacons::closed, y -> y.keep(odd), RevealBeacon.BAD);
        }
    }

    private static void keepReplaces() {
        RevealBeacon x = new RevealBeacon();
        x.pay(0, 1);
        x.keep(0);
        x.pay(0, 2);
        x.keep(1);
        x.pay(0, 3);
        x.back(0);
        due("the image 0", x.member(0, 0), 21);
        x.back(1);
        due("the image 1", x.member(0, 0), 23);
        x.keep(0);
        x.pay(0, 9);
        x.back(0);
        due("the image 0 replaced", x.member(0, 0), 23);
    }

    private static void back() {
        RevealBeacon x = Beacons.closed();
        x.next();
        x.keep(0);
        x.begin(8, 5);
        x.set(3, 9);
        x.setSeed(77);
        x.commit(7, 1, 1);
        due("back(0)", x.back(0), 1);
        due("the members", x.told(0), 3);
        due("the setting", x.setting(3), 5);
        due("the seed", x.told(7), 662824084);
        due("the past", x.past(0), 99);
        x.pay(0, 5);
        due("back(0) again, the image stays", x.back(0), 1);
        due("the deposit", x.member(0, 0), 30);
        x.begin(2, 2);
        x.keep(1);
        due("back(0)", x.back(0), 1);
        due("back(1)", x.back(1), 0);
        due("the members", x.told(0), 2);
    }

    private static void backIsRecorded() {
        RevealBeacon x = new RevealBeacon();
        x.keep(0);
        x.pay(0, 1);
        x.pay(0, 1);
        due("told(14)", x.told(14), 2);
        due("back(0)", x.back(0), 0);
        due("told(14), behind the others", x.told(14), 3);
        due("the deposit", x.member(0, 0), 20);
        due("undo() of back(0)", x.undo(), 2);
        due("the deposit", x.member(0, 0), 22);
        due("undo() of pay()", x.undo(), 1);
        due("the deposit", x.member(0, 0), 21);
        x.keep(1);
        due("keep() is no change", x.told(14), 1);
        due("undo()", x.undo(), 0);
        due("back(1), undo() leaves the images", x.back(1), 0);
        due("the deposit", x.member(0, 0), 21);
        due("told(14)", x.told(14), 1);
        due("undo()", x.undo(), 0);
        due("the deposit", x.member(0, 0), 20);
    }

    private static void backRefused() {
        for (int odd : ODD) {
            Checks.refused("back(" + odd + ")", Beacons::closed, x -> x.back(odd), RevealBeacon.BAD);
        }
        Checks.refused("back(0)", Beacons::closed, x -> x.back(0), RevealBeacon.STATE);
        Checks.refused("back(1)", Beacons::closed, x -> x.back(1), RevealBeacon.STATE);
        RevealBeacon x = Beacons.closed();
        x.keep(1);
        due("back(0) with the other one kept", x.back(0), RevealBeacon.STATE);
        due("back(1)", x.back(1), 0);
    }

    private static void keepsEverything() {
        RevealBeacon x = halfRecovered();
        x.keep(0);
        for (int i = 0; i < 8; i++) {
            x.pay(0, 1);
        }
        x.begin(8, 1);
        x.setSeed(5);
        x.set(0, 9);
        x.back(0);
        Checks.same("after back(0)", Checks.look(x), Checks.look(halfRecovered()));
    }

    private static RevealBeacon halfRecovered() {
        RevealBeacon x = Beacons.recovery();
        x.publish(2, 1, 62);
        x.turn(0, 0);
        return x;
    }
}
