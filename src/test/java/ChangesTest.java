/** Promises 1 to 13. */
public final class ChangesTest {
    public static void main(String[] args) {
        newObject();
        begin();
        beginRefused();
        set();
        setRefused();
        setSeed();
        turn();
        pay();
        commit();
        commitRefused();
        commitNeedsDeposit();
        polynomials();
        reveal();
        revealOther();
        revealFalse();
        revealRefused();
        publish();
        publishRefused();
        give();
        giveRefused();
        recoverWithMany();
        tick();
        tickLengths();
        tickFails();
        tickPays();
        tickRefused();
        outputsAreDetermined();
        next();
        nextRefused();
        undo();
        undoAll();
        Checks.finish("ChangesTest");
    }

    private static void due(String call, long got, long want) {
        Checks.due(call, got, want);
    }

    private static void newObject() {
        RevealBeacon x = new RevealBeacon();
        Checks.same("a new object", Checks.look(x), "told 3 2 0 0 0 0 0 1 0 0 0 -9 60 3 0 settings 4 4 4 5 3 0"
            + " member 0: 20 1 -9 -9 0 0 0 -9/-9 -9/-9 -9/-9 influence -2"
            + " member 1: 20 1 -9 -9 0 0 0 -9/-9 -9/-9 -9/-9 influence -2"
            + " member 2: 20 1 -9 -9 0 0 0 -9/-9 -9/-9 -9/-9 influence -2"
            + " past honest -2 outcome -2 mean 20.0");
        due("undo() at first", x.undo(), RevealBeacon.STATE);
        due("back(0) at first", x.back(0), RevealBeacon.STATE);
        due("back(1) at first", x.back(1), RevealBeacon.STATE);
        due("past(0) at first", x.past(0), RevealBeacon.BAD);
    }

    private static void begin() {
        Checks.change("begin(8, 8)", Beacons::closed, x -> x.begin(8, 8), 1);
        Checks.change("begin(2, 1)", Beacons::failed, x -> x.begin(2, 1), 1);
        Checks.change("begin(3, 2) at the end", Beacons::lastRound, x -> x.begin(3, 2), 30);
        RevealBeacon x = Beacons.closed();
        x.keep(0);
        x.set(0, 7);
        x.set(5, 1);
        x.turn(2, 0);
        x.pay(1, 9);
        x.next();
        x.commit(0, 1, 1);
        int seed = x.told(7);
        int changes = x.told(14);
        due("changes", changes, 8);
        due("begin(4, 3)", x.begin(4, 3), 2);
        Checks.same("after begin(4, 3)", Checks.look(x), "told 4 3 0 0 0 0 0 " + seed + " 0 0 0 -9 80 4 8"
            + " settings 7 4 4 5 3 1"
            + " member 0: 20 1 -9 -9 0 0 0 -9/-9 -9/-9 -9/-9 -9/-9 influence -2"
            + " member 1: 20 1 -9 -9 0 0 0 -9/-9 -9/-9 -9/-9 -9/-9 influence -2"
            + " member 2: 20 1 -9 -9 0 0 0 -9/-9 -9/-9 -9/-9 -9/-9 influence -2"
            + " member 3: 20 1 -9 -9 0 0 0 -9/-9 -9/-9 -9/-9 -9/-9 influence -2"
            + " past honest -2 outcome -2 mean 20.0");
        due("back(0) to before begin()", x.back(0), 0);
        due("the members of the image", x.told(0), 3);
        x = Beacons.recovery();
        x.begin(3, 2);
        due("the pool", x.told(6), 0);
        due("told(12)", x.told(12), 60);
    }

    private static void beginRefused() {
        int[][] bad = {{1, 1}, {9, 1}, {0, 0}, {-3, 2}, {2, 0}, {2, 3}, {8, 9}, {8, -1}, {Integer.MAX_VALUE, 1},
            {Integer.MIN_VALUE, 1}, {3, Integer.MAX_VALUE}, {3, Integer.MIN_VALUE}};
        for (int[] b : bad) {
            Checks.refused("begin(" + b[0] + ", " + b[1] + ")", Beacons::closed, x -> x.begin(b[0], b[1]), -1);
        }
    }

    private static void set() {
        int[] first = {4, 4, 4, 5, 3, 0};
        int[] low = {1, 1, 1, 0, 0, 0};
        int[] high = {20, 20, 20, 20, 20, 1};
        for (int i = 0; i < 6; i++) {
            int setting = i;
            Checks.change("set(" + i + ", low)", Beacons::recovery, x -> x.set(setting, low[setting]), first[i]);
            Checks.change("set(" + i + ", high)", Beacons::recovery, x -> x.set(setting, high[setting]), first[i]);
            Checks.change("set(" + i + ", same)", Beacons::recovery, x -> x.set(setting, first[setting]), first[i]);
            RevealBeacon x = new RevealBeacon();
            due("set(" + i + ", high)", x.set(i, high[i]), first[i]);
            due("set(" + i + ", low)", x.set(i, low[i]), high[i]);
            due("setting(" + i + ")", x.setting(i), low[i]);
            for (int other = 0; other < 6; other++) {
                due("setting(" + other + ")", x.setting(other), other == i ? low[i] : first[other]);
            }
        }
    }

    private static void setRefused() {
        int[][] bad = {{0, 0}, {0, 21}, {1, 0}, {1, 21}, {2, 0}, {2, 21}, {3, -1}, {3, 21}, {4, -1}, {4, 21}, {5, -1},
            {5, 2}, {6, 1}, {-1, 1}, {Integer.MAX_VALUE, 1}, {Integer.MIN_VALUE, 1}, {3, Integer.MAX_VALUE},
            {3, Integer.MIN_VALUE}};
        for (int[] b : bad) {
            Checks.refused("set(" + b[0] + ", " + b[1] + ")", Beacons::recovery, x -> x.set(b[0], b[1]), -1);
        }
    }

    private static void setSeed() {
        Checks.change("setSeed(0)", Beacons::fresh, x -> x.setSeed(0), 1);
        Checks.change("setSeed(max)", Beacons::bound, x -> x.setSeed(Integer.MAX_VALUE), 662824084);
        Checks.refused("setSeed(-1)", Beacons::bound, x -> x.setSeed(-1), -1);
        Checks.refused("setSeed(min)", Beacons::bound, x -> x.setSeed(Integer.MIN_VALUE), -1);
        RevealBeacon x = new RevealBeacon();
        due("setSeed(max)", x.setSeed(Integer.MAX_VALUE), 1);
        due("setSeed(5)", x.setSeed(5), Integer.MAX_VALUE);
        due("told(7)", x.told(7), 5);
    }

    private static void turn() {
        Checks.change("turn(2, 0)", Beacons::recovery, x -> x.turn(2, 0), 1);
        Checks.change("turn(2, 1)", Beacons::recovery, x -> x.turn(2, 1), 1);
        int[][] bad = {{3, 0}, {-1, 0}, {0, 2}, {0, -1}, {Integer.MAX_VALUE, 1}, {Integer.MIN_VALUE, 1},
            {0, Integer.MAX_VALUE}, {0, Integer.MIN_VALUE}};
        for (int[] b : bad) {
            Checks.refused("turn(" + b[0] + ", " + b[1] + ")", Beacons::recovery, x -> x.turn(b[0], b[1]), -1);
        }
        RevealBeacon x = Beacons.recovery();
        due("give(2, 1)", x.give(2, 1), 1);
        due("turn(2, 0)", x.turn(2, 0), 1);
        due("turn(2, 0) again", x.turn(2, 0), 0);
        due("told(13)", x.told(13), 2);
        due("what it has done", x.member(2, 5), 1);
        due("what it has published", x.share(1, 2), 62);
        due("its share counts", x.give(0, 1), 2);
        due("turn(2, 1)", x.turn(2, 1), 0);
        due("member(2, 1)", x.member(2, 1), 1);
    }

    private static void pay() {
        Checks.change("pay(0, 1)", Beacons::recovery, x -> x.pay(0, 1), 21);
        Checks.change("pay(2, 50)", Beacons::recovery, x -> x.pay(2, 50), 65);
        int[][] bad = {{3, 1}, {-1, 1}, {0, 0}, {0, 51}, {0, -1}, {0, Integer.MAX_VALUE}, {0, Integer.MIN_VALUE},
            {Integer.MAX_VALUE, 1}};
        for (int[] b : bad) {
            Checks.refused("pay(" + b[0] + ", " + b[1] + ")", Beacons::recovery, x -> x.pay(b[0], b[1]), -1);
        }
        Checks.change("pay(0, 29) to 999", ChangesTest::rich, x -> x.pay(0, 29), 999);
        Checks.refused("pay(0, 30) to 1000", ChangesTest::rich, x -> x.pay(0, 30), RevealBeacon.FULL);
        Checks.refused("pay(0, 51)", ChangesTest::rich, x -> x.pay(0, 51), RevealBeacon.BAD);
        RevealBeacon x = new RevealBeacon();
        due("pay(1, 7)", x.pay(1, 7), 27);
        due("the others", x.member(0, 0) + x.member(2, 0), 40);
        due("told(12)", x.told(12), 67);
    }

    /** The member 0 has 970. */
    private static RevealBeacon rich() {
        RevealBeacon x = new RevealBeacon();
        for (int i = 0; i < 19; i++) {
            x.pay(0, 50);
        }
        return x;
    }

    private static void commit() {
        Checks.change("commit(0, 100, 5)", Beacons::fresh, x -> x.commit(0, 100, 5), 3373);
        Checks.change("commit(1, 7, 999)", Beacons::fresh, x -> x.commit(1, 7, 999), 8416);
        Checks.change("commit(2, 255, 0)", Beacons::fresh, x -> x.commit(2, 255, 0), 6373);
        Checks.change("commit(0, 0, 0)", Beacons::fresh, x -> x.commit(0, 0, 0), 5);
        Checks.change("commit(7, 255, 999)", () -> Beacons.of(8, 8), x -> x.commit(7, 255, 999), 304);
        RevealBeacon x = Beacons.bound();
        due("told(8)", x.told(8), 3);
        due("told(7)", x.told(7), 662824084);
        due("member(1, 2)", x.member(1, 2), 8416);
        due("member(1, 3)", x.member(1, 3), RevealBeacon.NONE);
        due("member(1, 5)", x.member(1, 5), 1);
    }

    private static void commitRefused() {
        int[][] bad = {{3, 0, 0}, {-1, 0, 0}, {0, 256, 0}, {0, -1, 0}, {0, 0, 1000}, {0, 0, -1},
            {Integer.MAX_VALUE, 0, 0}, {0, Integer.MIN_VALUE, 0}, {0, 0, Integer.MAX_VALUE}};
        for (int[] b : bad) {
            String call = "commit(" + b[0] + ", " + b[1] + ", " + b[2] + ")";
            Checks.refused(call, Beacons::fresh, x -> x.commit(b[0], b[1], b[2]), RevealBeacon.BAD);
            Checks.refused(call, Beacons::closed, x -> x.commit(b[0], b[1], b[2]), RevealBeacon.BAD);
        }
        int state = RevealBeacon.STATE;
        Checks.refused("commit() again", Beacons::bound, x -> x.commit(0, 100, 5), state);
        Checks.refused("commit() in 1", ChangesTest::twoInRevelations, x -> x.commit(2, 1, 1), state);
        Checks.refused("commit() in 2", ChangesTest::twoInRecovery, x -> x.commit(2, 1, 1), state);
        Checks.refused("commit() in 3", Beacons::failed, x -> x.commit(2, 1, 1), state);
        Checks.refused("commit() of one that is off", ChangesTest::oneOff, x -> x.commit(2, 1, 1), state);
    }

    private static RevealBeacon twoInRevelations() {
        RevealBeacon x = new RevealBeacon();
        x.commit(0, 100, 5);
        x.commit(1, 7, 999);
        x.tick(4);
        return x;
    }

    private static RevealBeacon twoInRecovery() {
        RevealBeacon x = twoInRevelations();
        x.tick(4);
        return x;
    }

    private static RevealBeacon oneOff() {
        RevealBeacon x = new RevealBeacon();
        x.turn(2, 0);
        return x;
    }

    private static void commitNeedsDeposit() {
        RevealBeacon x = Beacons.recovery();
        x.tick(4);
        x.next();
        due("its deposit", x.member(1, 0), 15);
        x.set(3, 16);
        Checks.due("commit() with too little", x.commit(1, 1, 1), RevealBeacon.STATE);
        x.set(3, 15);
        due("commit() with enough", x.commit(1, 1, 1), x.commitment(1, 1, 1));
    }

    /** The marks tell the shares, the seed tells the draws. */
    private static void polynomials() {
        RevealBeacon x = Beacons.of(8, 8);
        x.setSeed(Integer.MAX_VALUE);
        x.commit(3, 200, 0);
        int[] marks = {2234, 3904, 8661, 6918, 2848, 7972, 3382, 4904};
        for (int j = 0; j < 8; j++) {
            due("mark(3, " + j + ")", x.mark(3, j), marks[j]);
        }
        due("told(7)", x.told(7), 595070966);
        x = Beacons.of(8, 5);
        x.setSeed(0);
        x.commit(0, 255, 0);
        marks = new int[] {2980, 8898, 3378, 2858, 1772, 2895, 2213, 2987};
        for (int j = 0; j < 8; j++) {
            due("mark(0, " + j + ")", x.mark(0, j), marks[j]);
        }
        due("told(7)", x.told(7), 1449466924);
        x = Beacons.of(3, 1);
        x.commit(0, 255, 0);
        due("told(7) after no draw", x.told(7), 1);
        for (int j = 0; j < 3; j++) {
            due("mark(0, " + j + ") of the secret itself", x.mark(0, j), (91 * 255 * 255 + 3 * 255 + j) % 10007);
        }
    }

    private static void reveal() {
        Checks.change("reveal(0, 100, 5)", Beacons::revelations, x -> x.reveal(0, 100, 5), 1);
        RevealBeacon x = Beacons.revelations();
        due("reveal(1, 7, 999)", x.reveal(1, 7, 999), 1);
        due("member(1, 3)", x.member(1, 3), 7);
        due("member(1, 5)", x.member(1, 5), 2);
        due("told(8)", x.told(8), 3);
        due("told(9)", x.told(9), 1);
        due("told(6)", x.told(6), 0);
        due("member(0, 3)", x.member(0, 3), RevealBeacon.NONE);
    }

    /** The pair 1, 556 has the commitment of 100, 5, too. */
    private static void revealOther() {
        RevealBeacon x = Beacons.revelations();
        due("reveal(0, 1, 556)", x.reveal(0, 1, 556), 1);
        due("member(0, 3)", x.member(0, 3), 1);
        due("member(0, 2)", x.member(0, 2), 3373);
        due("honest() with the first secret", x.honest(), 100 ^ 7 ^ 255);
        due("outcome() with the other one", x.outcome(), 1 ^ 7 ^ 255);
        due("reveal(0, 100, 5)", x.reveal(0, 100, 5), RevealBeacon.STATE);
        x.reveal(1, 7, 999);
        x.reveal(2, 255, 0);
        due("tick(4)", x.tick(4), 3);
        due("told(11)", x.told(11), 1 ^ 7 ^ 255);
    }

    private static void revealFalse() {
        Checks.change("reveal(0, 100, 6)", Beacons::revelations, x -> x.reveal(0, 100, 6), 0);
        RevealBeacon x = Beacons.revelations();
        due("a false salt", x.reveal(0, 100, 6), 0);
        due("a false secret", x.reveal(0, 101, 5), 0);
        due("the pair of another", x.reveal(0, 7, 999), 0);
        due("member(0, 0)", x.member(0, 0), 11);
        due("member(0, 6)", x.member(0, 6), 3);
        due("told(6)", x.told(6), 9);
        due("told(12)", x.told(12), 60);
        x.set(4, 20);
        due("a fine above the deposit", x.reveal(0, 0, 0), 0);
        due("member(0, 0)", x.member(0, 0), 0);
        due("told(6)", x.told(6), 20);
        due("a fine of nothing", x.reveal(0, 0, 0), 0);
        x.set(4, 0);
        due("a fine of 0", x.reveal(1, 0, 0), 0);
        due("member(0, 6)", x.member(0, 6), 5);
        due("member(1, 6)", x.member(1, 6), 1);
        due("member(1, 0)", x.member(1, 0), 20);
        due("told(6)", x.told(6), 20);
        due("the true one", x.reveal(0, 100, 5), 1);
    }

    private static void revealRefused() {
        int[][] bad = {{3, 0, 0}, {-1, 0, 0}, {0, 256, 0}, {0, -1, 0}, {0, 0, 1000}, {0, 0, -1},
            {Integer.MIN_VALUE, 0, 0}, {0, Integer.MAX_VALUE, 0}, {0, 0, Integer.MIN_VALUE}};
        for (int[] b : bad) {
            String call = "reveal(" + b[0] + ", " + b[1] + ", " + b[2] + ")";
            Checks.refused(call, Beacons::revelations, x -> x.reveal(b[0], b[1], b[2]), RevealBeacon.BAD);
            Checks.refused(call, Beacons::bound, x -> x.reveal(b[0], b[1], b[2]), RevealBeacon.BAD);
        }
        int state = RevealBeacon.STATE;
        Checks.refused("reveal() in 0", Beacons::bound, x -> x.reveal(0, 100, 5), state);
        Checks.refused("reveal() in 2", Beacons::recovery, x -> x.reveal(1, 7, 999), state);
        Checks.refused("reveal() in 3", Beacons::closed, x -> x.reveal(2, 255, 0), state);
        Checks.refused("reveal() without a commitment", ChangesTest::twoInRevelations, x -> x.reveal(2, 0, 0), state);
        Checks.refused("reveal() again", ChangesTest::oneRevealed, x -> x.reveal(0, 100, 5), state);
        Checks.refused("reveal() again, false", ChangesTest::oneRevealed, x -> x.reveal(0, 0, 0), state);
        Checks.refused("reveal() of one that is off", ChangesTest::offInRevelations, x -> x.reveal(2, 255, 0), state);
    }

    private static RevealBeacon oneRevealed() {
        RevealBeacon x = Beacons.revelations();
        x.reveal(0, 100, 5);
        return x;
    }

    private static RevealBeacon offInRevelations() {
        RevealBeacon x = Beacons.revelations();
        x.turn(2, 0);
        return x;
    }

    private static void publish() {
        Checks.change("publish(0, 1, 111)", Beacons::recovery, x -> x.publish(0, 1, 111), 1);
        Checks.change("publish(0, 1, 0)", Beacons::recovery, x -> x.publish(0, 1, 0), 0);
        Checks.change("publish(0, 1, 256)", Beacons::recovery, x -> x.publish(0, 1, 256), 0);
        RevealBeacon x = Beacons.recovery();
        due("a false share", x.publish(2, 1, 63), 0);
        due("the share of another", x.publish(2, 1, 111), 0);
        due("member(2, 0)", x.member(2, 0), 9);
        due("member(2, 6)", x.member(2, 6), 3);
        due("told(6)", x.told(6), 16);
        due("share(1, 2)", x.share(1, 2), RevealBeacon.NONE);
        due("the true one", x.publish(2, 1, 62), 1);
        due("share(1, 2)", x.share(1, 2), 62);
        due("member(1, 4)", x.member(1, 4), 1);
        due("member(1, 3)", x.member(1, 3), RevealBeacon.NONE);
        due("the second one", x.publish(0, 1, 111), 2);
        due("member(1, 3)", x.member(1, 3), 7);
        due("member(1, 5)", x.member(1, 5), 3);
        due("member(1, 4)", x.member(1, 4), 2);
        due("told(8)", x.told(8), 3);
        due("told(9)", x.told(9), 1);
        due("told(10)", x.told(10), 1);
        due("the recovered one publishes", x.publish(1, 2, 178), 1);
    }

    private static void publishRefused() {
        int bad = RevealBeacon.BAD;
        int[][] wrong = {{3, 1, 0}, {0, 3, 0}, {-1, 1, 0}, {0, -1, 0}, {1, 1, 0}, {0, 1, 257}, {0, 1, -1},
            {Integer.MAX_VALUE, 1, 0}, {0, Integer.MIN_VALUE, 0}, {0, 1, Integer.MAX_VALUE}, {0, 1, Integer.MIN_VALUE}};
        for (int[] b : wrong) {
            String call = "publish(" + b[0] + ", " + b[1] + ", " + b[2] + ")";
            Checks.refused(call, Beacons::recovery, x -> x.publish(b[0], b[1], b[2]), bad);
            Checks.refused(call, Beacons::fresh, x -> x.publish(b[0], b[1], b[2]), bad);
        }
        int state = RevealBeacon.STATE;
        Checks.refused("publish() in 0", Beacons::bound, x -> x.publish(0, 1, 111), state);
        Checks.refused("publish() in 1", Beacons::revelations, x -> x.publish(0, 1, 111), state);
        Checks.refused("publish() in 3", Beacons::closed, x -> x.publish(0, 2, 88), state);
        Checks.refused("publish() of a revealed one", Beacons::recovery, x -> x.publish(1, 0, 109), state);
        Checks.refused("publish() again", ChangesTest::oneShare, x -> x.publish(2, 1, 62), state);
        Checks.refused("publish() again, false", ChangesTest::oneShare, x -> x.publish(2, 1, 0), state);
        Checks.refused("publish() when off", ChangesTest::giverOff, x -> x.publish(0, 1, 111), state);
        Checks.refused("publish() for a recovered one", ChangesTest::recovered, x -> x.publish(3, 0, 0), state);
        Checks.refused("publish() without a commitment", ChangesTest::twoInRecovery, x -> x.publish(2, 1, 0), state);
        Checks.refused("publish() for one without", ChangesTest::twoInRecovery, x -> x.publish(1, 2, 0), state);
        Checks.query("an owner that is off", ChangesTest::ownerOff, x -> x.member(1, 3), 7);
    }

    private static RevealBeacon oneShare() {
        RevealBeacon x = Beacons.recovery();
        x.give(2, 1);
        return x;
    }

    private static RevealBeacon giverOff() {
        RevealBeacon x = Beacons.recovery();
        x.turn(0, 0);
        return x;
    }

    private static RevealBeacon ownerOff() {
        RevealBeacon x = Beacons.recovery();
        x.turn(1, 0);
        x.publish(0, 1, 111);
        x.publish(2, 1, 62);
        return x;
    }

    /** The secret of the member 0 is recovered by the members 1 and 2; there is a fourth one. */
    private static RevealBeacon recovered() {
        RevealBeacon x = Beacons.powers(4, 2);
        x.tick(4);
        x.give(1, 0);
        x.give(2, 0);
        return x;
    }

    private static void give() {
        Checks.change("give(0, 2)", Beacons::recovery, x -> x.give(0, 2), 1);
        RevealBeacon x = Beacons.recovery();
        due("give(0, 2)", x.give(0, 2), 1);
        due("share(2, 0)", x.share(2, 0), 88);
        due("give(1, 2)", x.give(1, 2), 2);
        due("share(2, 1)", x.share(2, 1), 178);
        due("member(2, 3)", x.member(2, 3), 255);
        due("member(0, 6)", x.member(0, 6), 0);
    }

    private static void giveRefused() {
        int[][] wrong = {{3, 1}, {0, 3}, {-1, 1}, {0, -1}, {1, 1}, {Integer.MIN_VALUE, 1}, {0, Integer.MAX_VALUE}};
        for (int[] b : wrong) {
            String call = "give(" + b[0] + ", " + b[1] + ")";
            Checks.refused(call, Beacons::recovery, x -> x.give(b[0], b[1]), RevealBeacon.BAD);
            Checks.refused(call, Beacons::fresh, x -> x.give(b[0], b[1]), RevealBeacon.BAD);
        }
        int state = RevealBeacon.STATE;
        Checks.refused("give() in 0", Beacons::bound, x -> x.give(0, 1), state);
        Checks.refused("give() in 1", Beacons::revelations, x -> x.give(0, 1), state);
        Checks.refused("give() in 3", Beacons::closed, x -> x.give(0, 2), state);
        Checks.refused("give() for a revealed one", Beacons::recovery, x -> x.give(1, 0), state);
        Checks.refused("give() again", ChangesTest::oneShare, x -> x.give(2, 1), state);
        Checks.refused("give() when off", ChangesTest::giverOff, x -> x.give(0, 1), state);
        Checks.refused("give() for a recovered one", ChangesTest::recovered, x -> x.give(3, 0), state);
        Checks.refused("give() without a commitment", ChangesTest::twoInRecovery, x -> x.give(2, 1), state);
        Checks.refused("give() for one without", ChangesTest::twoInRecovery, x -> x.give(1, 2), state);
    }

    /** Every number of members and every threshold, the givers in descending order. */
    private static void recoverWithMany() {
        for (int members = 2; members <= 8; members++) {
            for (int threshold = 1; threshold <= members; threshold++) {
                RevealBeacon x = Beacons.powers(members, threshold);
                x.tick(4);
                int owner = threshold % members;
                int shares = 0;
                for (int giver = members - 1; giver >= 0 && shares < threshold; giver--) {
                    if (giver != owner) {
                        due("give(" + giver + ", " + owner + ")", x.give(giver, owner), ++shares);
                    }
                }
                int secret = shares < threshold ? RevealBeacon.NONE : 1 << owner;
                due("of " + members + " with " + threshold, x.member(owner, 3), secret);
            }
        }
    }

    private static void tick() {
        Checks.change("tick(1)", Beacons::bound, x -> x.tick(1), 0);
        Checks.change("tick(3)", Beacons::bound, x -> x.tick(3), 0);
        Checks.change("tick(4)", Beacons::bound, x -> x.tick(4), 1);
        Checks.change("tick(8)", Beacons::bound, x -> x.tick(8), 2);
        Checks.change("tick(11)", Beacons::bound, x -> x.tick(11), 2);
        Checks.change("tick(12)", Beacons::bound, x -> x.tick(12), 3);
        Checks.change("tick(60)", Beacons::bound, x -> x.tick(60), 3);
        RevealBeacon x = Beacons.bound();
        x.tick(3);
        due("the age", x.told(5), 3);
        x.tick(1);
        due("the age", x.told(5), 0);
        due("the clock", x.told(2), 4);
        x.tick(60);
        due("the age in the phase 3", x.told(5), 52);
        due("the clock", x.told(2), 64);
        x.tick(60);
        due("the age in the phase 3", x.told(5), 112);
        x.next();
        due("the clock goes on", x.told(2), 124);
        due("the age", x.told(5), 0);
    }

    private static void tickLengths() {
        RevealBeacon x = Beacons.bound();
        x.set(0, 2);
        x.set(1, 3);
        x.set(2, 1);
        due("tick(1)", x.tick(1), 0);
        due("tick(1)", x.tick(1), 1);
        due("tick(2)", x.tick(2), 1);
        due("tick(1)", x.tick(1), 2);
        due("tick(1)", x.tick(1), 3);
        x = Beacons.bound();
        x.tick(3);
        x.set(0, 1);
        due("it ends with the next tick", x.told(4), 0);
        due("tick(1)", x.tick(1), 1);
        due("the age", x.told(5), 0);
        x.tick(3);
        x.set(1, 20);
        due("a longer phase", x.tick(16), 1);
        due("its end", x.tick(1), 2);
    }

    private static void tickFails() {
        RevealBeacon x = Beacons.failed();
        due("the phase", x.told(4), 3);
        due("the age", x.told(5), 0);
        due("the output", x.told(11), RevealBeacon.NONE);
        due("no fine", x.member(0, 6), 0);
        x = new RevealBeacon();
        due("nobody", x.tick(4), 3);
        x = twoInRevelations();
        due("two are enough", x.told(4), 1);
        x = poolOfNine();
        x.next();
        x.commit(0, 1, 1);
        due("it fails", x.tick(4), 3);
        due("the pool is not paid out then", x.told(6), 9);
    }

    /** In the phase 3, all three fined by 3, and nobody to pay them out to. */
    private static RevealBeacon poolOfNine() {
        RevealBeacon x = Beacons.revelations();
        x.set(3, 3);
        x.tick(8);
        due("the pool of nine", x.told(6), 9);
        return x;
    }

    private static void tickPays() {
        RevealBeacon x = Beacons.revelations();
        x.set(3, 7);
        x.reveal(0, 100, 5);
        x.turn(2, 0);
        due("tick(4)", x.tick(4), 2);
        due("the silent one", x.member(1, 0), 13);
        due("its fines", x.member(1, 6), 1);
        due("the one that is off", x.member(2, 0), 13);
        due("the one that has revealed", x.member(0, 0), 20);
        due("its fines", x.member(0, 6), 0);
        due("the pool", x.told(6), 14);
        x.tick(4);
        due("all to the one", x.member(0, 0), 34);
        due("the pool", x.told(6), 0);
        x = Beacons.powers(5, 2);
        Beacons.revealPower(x, 0);
        Beacons.revealPower(x, 2);
        Beacons.revealPower(x, 3);
        x.tick(4);
        x.give(0, 1);
        x.give(2, 1);
        x.tick(4);
        due("a third of ten", x.member(2, 0), 23);
        due("none for the recovered one", x.member(1, 0), 15);
        due("the rest stays", x.told(6), 1);
        x.next();
        due("the rest stays", x.told(6), 1);
        x = Beacons.revelations();
        x.reveal(0, 100, 5);
        x.reveal(1, 7, 999);
        due("one is silent", x.tick(4), 2);
        x = Beacons.revelations();
        x.reveal(0, 0, 0);
        x.reveal(0, 100, 5);
        x.reveal(1, 7, 999);
        x.reveal(2, 255, 0);
        due("all revealed", x.tick(4), 3);
        due("the age", x.told(5), 0);
        due("one each", x.member(0, 0), 18);
        due("one each", x.member(1, 0), 21);
        due("the pool", x.told(6), 0);
    }

    private static void tickRefused() {
        int[] bad = {0, -1, 61, Integer.MAX_VALUE, Integer.MIN_VALUE};
        for (int n : bad) {
            Checks.refused("tick(" + n + ")", Beacons::revelations, x -> x.tick(n), RevealBeacon.BAD);
        }
    }

    private static void outputsAreDetermined() {
        RevealBeacon x = Beacons.closed();
        due("without the lost one", x.told(11), 100 ^ 7);
        x.set(5, 1);
        due("the strictness comes too late", x.told(11), 100 ^ 7);
        due("outcome()", x.outcome(), 100 ^ 7);
        x = Beacons.recovery();
        x.set(5, 1);
        x.give(0, 1);
        x.give(2, 1);
        x.tick(4);
        due("a lost one with strictness", x.told(11), RevealBeacon.NONE);
        x.set(5, 0);
        due("the strictness comes too late", x.told(11), RevealBeacon.NONE);
        x = Beacons.recovery();
        x.set(5, 1);
        x.give(0, 1);
        x.give(2, 1);
        x.give(0, 2);
        x.give(1, 2);
        due("told(11) in the phase 2", x.told(11), RevealBeacon.NONE);
        x.tick(4);
        due("all revealed or recovered", x.told(11), 100 ^ 7 ^ 255);
        x = Beacons.revelations();
        x.tick(8);
        due("all lost", x.told(11), RevealBeacon.NONE);
        x = Beacons.of(2, 1);
        x.commit(0, 9, 0);
        x.commit(1, 9, 0);
        x.tick(4);
        x.reveal(0, 9, 0);
        x.reveal(1, 9, 0);
        x.tick(4);
        due("an output of 0", x.told(11), 0);
    }

    private static void next() {
        Checks.change("next()", Beacons::closed, x -> x.next(), 1);
        Checks.change("next() after a failed round", Beacons::failed, x -> x.next(), 1);
        RevealBeacon x = Beacons.closed();
        x.turn(2, 0);
        x.next();
        Checks.same("after next()", Checks.look(x), "told 3 2 12 1 0 0 0 662824084 0 0 0 -9 60 2 8"
            + " settings 4 4 4 5 3 0"
            + " member 0: 30 1 -9 -9 0 0 0 -9/-9 -9/-9 -9/-9 influence -2"
            + " member 1: 15 1 -9 -9 0 0 1 -9/-9 -9/-9 -9/-9 influence -2"
            + " member 2: 15 0 -9 -9 0 0 1 -9/-9 -9/-9 -9/-9 influence -2"
            + " past 99 honest -2 outcome -2 mean 20.0");
    }

    private static void nextRefused() {
        Checks.refused("next() in 0", Beacons::bound, x -> x.next(), RevealBeacon.STATE);
        Checks.refused("next() in 1", Beacons::revelations, x -> x.next(), RevealBeacon.STATE);
        Checks.refused("next() in 2", Beacons::recovery, x -> x.next(), RevealBeacon.STATE);
        Checks.refused("next() in the last round", Beacons::lastRound, x -> x.next(), RevealBeacon.FULL);
        Checks.refused("next() before its end", ChangesTest::lastRoundOpen, x -> x.next(), RevealBeacon.STATE);
    }

    private static RevealBeacon lastRoundOpen() {
        RevealBeacon x = Beacons.lastRound();
        x.undo();
        return x;
    }

    private static void undo() {
        Checks.refused("undo()", Beacons::fresh, x -> x.undo(), RevealBeacon.STATE);
        RevealBeacon x = new RevealBeacon();
        for (int i = 1; i <= 12; i++) {
            due("pay(0, 1)", x.pay(0, 1), 20 + i);
            due("told(14)", x.told(14), Math.min(8, i));
        }
        for (int i = 7; i >= 0; i--) {
            due("undo()", x.undo(), i);
            due("the deposit", x.member(0, 0), 24 + i);
            due("told(14)", x.told(14), i);
        }
        due("undo() of what was dropped", x.undo(), RevealBeacon.STATE);
        due("the deposit", x.member(0, 0), 24);
        for (int i = 1; i <= 10; i++) {
            due("pay(0, 2)", x.pay(0, 2), 24 + 2 * i);
        }
        due("undo()", x.undo(), 7);
        due("pay(1, 1)", x.pay(1, 1), 21);
        due("undo()", x.undo(), 7);
        due("undo()", x.undo(), 6);
        due("the deposit", x.member(0, 0), 40);
        due("another deposit", x.member(1, 0), 20);
    }

    /** A round back to its beginning, from the state of its end. */
    private static void undoAll() {
        RevealBeacon x = Beacons.closed();
        due("told(14)", x.told(14), 8);
        for (int i = 7; i >= 0; i--) {
            due("undo()", x.undo(), i);
        }
        RevealBeacon one = new RevealBeacon();
        one.commit(0, 100, 5);
        due("what remains", x.told(8), 1);
        due("the seed", x.told(7), one.told(7));
        due("the commitment", x.member(0, 2), 3373);
        due("the clock", x.told(2), 0);
        due("the pool", x.told(6), 0);
        due("commit() once more", x.commit(1, 7, 999), 8416);
        due("the same mark", x.mark(1, 1), 4181);
        x = Beacons.bound();
        x.begin(3, 1);
        x.commit(0, 1, 1);
        x.undo();
        x.undo();
        Checks.same("what a later commitment replaced", Checks.look(x), Checks.look(Beacons.bound()));
    }
}
