/** Promises 14 to 21. */
public final class ToldTest {
    private static final int[] ODD = {Integer.MIN_VALUE, -1, Integer.MAX_VALUE};

    public static void main(String[] args) {
        told();
        toldRefused();
        setting();
        member();
        memberRefused();
        mark();
        share();
        commitment();
        openings();
        openingsByTrying();
        past();
        Checks.finish("ToldTest");
    }

    private static void due(String call, long got, long want) {
        Checks.due(call, got, want);
    }

    private static void told() {
        RevealBeacon x = Beacons.recovery();
        x.turn(2, 0);
        x.give(0, 1);
        x.tick(1);
        int[] want = {3, 2, 9, 0, 2, 1, 10, 662824084, 3, 1, 0, -9, 60, 2, 8};
        for (int what = 0; what < want.length; what++) {
            due("told(" + what + ")", x.told(what), want[what]);
        }
        x.turn(2, 1);
        x.give(2, 1);
        x.tick(3);
        x.undo();
        x.tick(3);
        want = new int[] {3, 2, 12, 0, 3, 0, 0, 662824084, 3, 1, 1, 99, 60, 3, 8};
        for (int what = 0; what < want.length; what++) {
            due("told(" + what + ")", x.told(what), want[what]);
        }
        x.next();
        due("told(3)", x.told(3), 1);
        due("told(11)", x.told(11), RevealBeacon.NONE);
        x = Beacons.of(7, 4);
        due("told(0)", x.told(0), 7);
        due("told(1)", x.told(1), 4);
        due("told(14)", x.told(14), 1);
        due("told(12)", x.told(12), 140);
    }

    private static void toldRefused() {
        Checks.refused("told(15)", Beacons::closed, x -> x.told(15), RevealBeacon.BAD);
        for (int odd : ODD) {
            Checks.refused("told(" + odd + ")", Beacons::closed, x -> x.told(odd), RevealBeacon.BAD);
        }
    }

    private static void setting() {
        int[] first = {4, 4, 4, 5, 3, 0};
        for (int i = 0; i < 6; i++) {
            int setting = i;
            Checks.query("setting(" + i + ")", Beacons::closed, x -> x.setting(setting), first[i]);
        }
        Checks.refused("setting(6)", Beacons::closed, x -> x.setting(6), RevealBeacon.BAD);
        for (int odd : ODD) {
            Checks.refused("setting(" + odd + ")", Beacons::closed, x -> x.setting(odd), RevealBeacon.BAD);
        }
    }

    private static void member() {
        int[][] want = {{30, 1, 3373, 100, 0, 2, 0}, {15, 1, 8416, 7, 2, 3, 1}, {15, 1, 6373, -9, 0, 1, 1}};
        for (int i = 0; i < 3; i++) {
            for (int k = 0; k < 7; k++) {
                int member = i;
                int what = k;
                String call = "member(" + i + ", " + k + ")";
                Checks.query(call, Beacons::closed, x -> x.member(member, what), want[i][k]);
            }
        }
        RevealBeacon x = Beacons.failed();
        int[] idle = {20, 1, -9, -9, 0, 0, 0};
        for (int what = 0; what < 7; what++) {
            due("member(2, " + what + ")", x.member(2, what), idle[what]);
        }
        x = Beacons.recovery();
        x.set(4, 0);
        x.publish(2, 1, 0);
        due("a fine of 0 counts", x.member(2, 6), 2);
        x.tick(4);
        x.next();
        due("fines of past rounds count", x.member(2, 6), 2);
        x.begin(3, 2);
        due("fines since begin()", x.member(2, 6), 0);
    }

    private static void memberRefused() {
        Checks.refused("member(3, 0)", Beacons::closed, x -> x.member(3, 0), RevealBeacon.BAD);
        Checks.refused("member(0, 7)", Beacons::closed, x -> x.member(0, 7), RevealBeacon.BAD);
        Checks.refused("member(7, 0)", Beacons::closed, x -> x.member(7, 0), RevealBeacon.BAD);
        for (int odd : ODD) {
            Checks.refused("member(" + odd + ", 0)", Beacons::closed, x -> x.member(odd, 0), RevealBeacon.BAD);
            Checks.refused("member(0, " + odd + ")", Beacons::closed, x -> x.member(0, odd), RevealBeacon.BAD);
        }
    }

    private static void mark() {
        int[][] want = {{7547, 743, 6328}, {760, 4181, 9754}, {4478, 1763, 1039}};
        for (int i = 0; i < 3; i++) {
            for (int j = 0; j < 3; j++) {
                int owner = i;
                int giver = j;
                String call = "mark(" + i + ", " + j + ")";
                Checks.query(call, Beacons::bound, x -> x.mark(owner, giver), want[i][j]);
                Checks.query(call, Beacons::closed, x -> x.mark(owner, giver), want[i][j]);
            }
        }
        Checks.query("mark(1, 0)", Beacons::failed, x -> x.mark(1, 0), RevealBeacon.NONE);
        Checks.query("mark(0, 1)", Beacons::failed, x -> x.mark(0, 1), 743);
        Checks.refused("mark(3, 0)", Beacons::failed, x -> x.mark(3, 0), RevealBeacon.BAD);
        Checks.refused("mark(1, 3)", Beacons::failed, x -> x.mark(1, 3), RevealBeacon.BAD);
        for (int odd : ODD) {
            Checks.refused("mark(" + odd + ", 0)", Beacons::bound, x -> x.mark(odd, 0), RevealBeacon.BAD);
            Checks.refused("mark(0, " + odd + ")", Beacons::bound, x -> x.mark(0, odd), RevealBeacon.BAD);
        }
    }

    private static void share() {
        int[][] want = {{-9, -9, -9}, {111, -9, 62}, {-9, -9, -9}};
        for (int i = 0; i < 3; i++) {
            for (int j = 0; j < 3; j++) {
                int owner = i;
                int giver = j;
                String call = "share(" + i + ", " + j + ")";
                Checks.query(call, Beacons::closed, x -> x.share(owner, giver), want[i][j]);
            }
        }
        Checks.query("share(0, 0)", Beacons::fresh, x -> x.share(0, 0), RevealBeacon.NONE);
        Checks.refused("share(3, 0)", Beacons::closed, x -> x.share(3, 0), RevealBeacon.BAD);
        Checks.refused("share(0, 3)", Beacons::closed, x -> x.share(0, 3), RevealBeacon.BAD);
        for (int odd : ODD) {
            Checks.refused("share(" + odd + ", 0)", Beacons::closed, x -> x.share(odd, 0), RevealBeacon.BAD);
            Checks.refused("share(0, " + odd + ")", Beacons::closed, x -> x.share(0, odd), RevealBeacon.BAD);
        }
        RevealBeacon x = Beacons.closed();
        x.next();
        due("share(1, 0) in the next round", x.share(1, 0), RevealBeacon.NONE);
    }

    private static void commitment() {
        int[][] want = {{0, 0, 0, 5}, {2, 0, 0, 2005}, {0, 100, 5, 3373}, {1, 7, 999, 8416}, {2, 255, 0, 6373},
            {7, 255, 999, 304}};
        for (int[] w : want) {
            String call = "commitment(" + w[0] + ", " + w[1] + ", " + w[2] + ")";
            Checks.query(call, () -> Beacons.of(8, 2), x -> x.commitment(w[0], w[1], w[2]), w[3]);
        }
        int[][] bad = {{3, 0, 0}, {-1, 0, 0}, {0, 256, 0}, {0, -1, 0}, {0, 0, 1000}, {0, 0, -1},
            {Integer.MAX_VALUE, 0, 0}, {0, Integer.MAX_VALUE, 0}, {0, 0, Integer.MAX_VALUE},
            {Integer.MIN_VALUE, 0, 0}, {0, Integer.MIN_VALUE, 0}, {0, 0, Integer.MIN_VALUE}};
        for (int[] b : bad) {
            String call = "commitment(" + b[0] + ", " + b[1] + ", " + b[2] + ")";
            Checks.refused(call, Beacons::closed, x -> x.commitment(b[0], b[1], b[2]), RevealBeacon.BAD);
        }
    }

    private static void openings() {
        Checks.query("openings(0, 100)", Beacons::bound, x -> x.openings(0, 100), 1);
        Checks.query("openings(0, -1)", Beacons::bound, x -> x.openings(0, -1), 29);
        Checks.query("openings(1, -1)", Beacons::bound, x -> x.openings(1, -1), 26);
        Checks.query("openings(2, -1)", Beacons::closed, x -> x.openings(2, -1), 27);
        Checks.query("openings(0, 1)", Beacons::bound, x -> x.openings(0, 1), 1);
        Checks.query("openings(0, 2)", Beacons::bound, x -> x.openings(0, 2), 0);
        Checks.query("openings(1, 7) with the salt 999", Beacons::bound, x -> x.openings(1, 7), 1);
        Checks.query("openings(2, 255) with the salt 0", Beacons::bound, x -> x.openings(2, 255), 1);
        Checks.query("openings(1, 0)", Beacons::failed, x -> x.openings(1, 0), RevealBeacon.NONE);
        Checks.query("openings(1, -1)", Beacons::failed, x -> x.openings(1, -1), RevealBeacon.NONE);
        Checks.refused("openings(1, 256)", Beacons::failed, x -> x.openings(1, 256), RevealBeacon.BAD);
        Checks.refused("openings(0, -2)", Beacons::bound, x -> x.openings(0, -2), RevealBeacon.BAD);
        Checks.refused("openings(3, -1)", Beacons::bound, x -> x.openings(3, -1), RevealBeacon.BAD);
        Checks.refused("openings(0, max)", Beacons::bound, x -> x.openings(0, Integer.MAX_VALUE), -1);
        Checks.refused("openings(0, min)", Beacons::bound, x -> x.openings(0, Integer.MIN_VALUE), -1);
        Checks.refused("openings(-1, 0)", Beacons::bound, x -> x.openings(-1, 0), RevealBeacon.BAD);
        RevealBeacon x = Beacons.of(3, 1);
        due("what 0 with the salt 1000 would have, too", x.commit(0, 16, 846), (17 * 1000 + 5) % 10007);
        due("openings(0, 0)", x.openings(0, 0), 0);
        due("openings(0, -1)", x.openings(0, -1), 23);
        x = Beacons.closed();
        x.next();
        due("openings(0, -1) in the next round", x.openings(0, -1), RevealBeacon.NONE);
    }

    /** Each secret by trying all salts, for commitments with the salts at both edges. */
    private static void openingsByTrying() {
        int[][] pairs = {{0, 0}, {0, 999}, {255, 999}, {1, 588}, {128, 1}};
        for (int[] pair : pairs) {
            RevealBeacon x = Beacons.of(8, 1);
            int commitment = x.commit(7, pair[0], pair[1]);
            int all = 0;
            for (int s = 0; s < 256; s++) {
                int count = 0;
                for (int v = 0; v < 1000; v++) {
                    count += (31 * s * s + 17 * v + 7 * s * v + 7005) % 10007 == commitment ? 1 : 0;
                }
                due("openings(7, " + s + ")", x.openings(7, s), count);
                all += count;
            }
            due("openings(7, -1)", x.openings(7, -1), all);
        }
    }

    private static void past() {
        RevealBeacon x = Beacons.closed();
        due("past(0) of the present one", x.past(0), RevealBeacon.BAD);
        x.next();
        due("past(0)", x.past(0), 99);
        due("past(1)", x.past(1), RevealBeacon.BAD);
        x.tick(4);
        due("past(1) of the present one", x.past(1), RevealBeacon.BAD);
        x.next();
        due("past(0)", x.past(0), 99);
        due("past(1)", x.past(1), RevealBeacon.NONE);
        due("past(2)", x.past(2), RevealBeacon.BAD);
        for (int odd : ODD) {
            due("past(" + odd + ")", x.past(odd), RevealBeacon.BAD);
        }
        x.undo();
        due("past(1) after undo()", x.past(1), RevealBeacon.BAD);
        x.begin(3, 2);
        due("past(0) after begin()", x.past(0), RevealBeacon.BAD);
        x = Beacons.lastRound();
        due("past(28)", x.past(28), RevealBeacon.NONE);
        due("past(29)", x.past(29), RevealBeacon.BAD);
        due("past(30)", x.past(30), RevealBeacon.BAD);
    }
}
