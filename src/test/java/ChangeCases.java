import java.util.function.Supplier;
import java.util.function.ToLongFunction;

/** Promises 1 to 6. */
final class ChangeCases {
    private static final int MAX = Integer.MAX_VALUE, MIN = Integer.MIN_VALUE;

    private ChangeCases() {
    }

    static void run() {
        newObject();
        begin();
        beginRange();
        set();
        setSeed();
        turn();
        pay();
    }

    private static void due(String call, long got, long want) {
        Checks.due(call, got, want);
    }

    private static void bad(String call, Supplier<RevealBeacon> setup, ToLongFunction<RevealBeacon> run) {
        Checks.refused(call, setup, run, RevealBeacon.BAD);
    }

    private static void newObject() {
        String section = "Promise 1: A new object";
        Sentences.test(section, "Creates a beacon of 3 members with the threshold 2, in its first round, at the clock 0;",
            () -> {
            RevealBeacon x = new RevealBeacon();
            Checks.same("a new object", Checks.look(x), "told 3 2 0 0 0 0 0 1 0 0 0 -9 60 3 settings 4 4 4 5 3 0"
                + " member 0: 20 1 -9 -9 0 0 0 -9/-9 -9/-9 -9/-9 influence -2"
                + " member 1: 20 1 -9 -9 0 0 0 -9/-9 -9/-9 -9/-9 influence -2"
                + " member 2: 20 1 -9 -9 0 0 0 -9/-9 -9/-9 -9/-9 influence -2"
                + " past honest -2 outcome -2 mean 20.0");
            due("no past round", x.past(0), -1);
            due("the last member", x.pay(2, 1), 21);
            due("one too many", x.pay(3, 1), -1);
            x = Beacons.recovery();
            due("one share is too few", x.give(0, 1), 1);
            due("not recovered", x.member(1, 5), 1);
            due("two shares are enough", x.give(2, 1), 2);
            due("recovered", x.member(1, 5), 3);
        });
        Sentences.test(section, "the images keep nothing,", () -> {
            Checks.refused("back(0) at first", Beacons::fresh, x -> x.back(0), -2);
            Checks.refused("back(1) at first", Beacons::fresh, x -> x.back(1), -2);
        });
        Sentences.test(section, "and nothing can be undone.", () -> {
            Checks.refused("undo() at first", Beacons::fresh, x -> x.undo(), -2);
            due("told(14)", new RevealBeacon().told(14), 0);
        });
    }

    /** In the third round, in the phase 1, with a pool, fines, other settings, a member off, and another seed. */
    private static RevealBeacon used() {
        RevealBeacon x = Beacons.poor(13);
        x.tick(4);
        x.next();
        x.set(0, 7);
        x.set(1, 6);
        x.set(2, 5);
        x.set(5, 1);
        x.turn(2, 0);
        x.pay(1, 9);
        x.commit(0, 100, 5);
        x.commit(1, 7, 999);
        x.tick(9);
        return x;
    }

    private static void begin() {
        String section = "Promise 2: begin";
        Sentences.test(section, "Begins anew: all members are on and have their first deposits,", () -> {
            for (int m = 2; m <= 8; m++) {
                RevealBeacon x = used();
                due("begin(" + m + ", 1)", x.begin(m, 1), 3);
                due("members that are on", x.told(13), m);
                for (int i = 0; i < m; i++) {
                    due("the deposit of " + i, x.member(i, 0), 20);
                    due("the commitment of " + i, x.member(i, 2), -9);
                    due("the fines of " + i, x.member(i, 6), 0);
                }
            }
        });
        Sentences.test(section, "the pool is 0,", () -> {
            RevealBeacon x = used();
            due("the pool before", x.told(6), 7);
            x.begin(3, 2);
            due("the pool", x.told(6), 0);
            due("the sum", x.told(12), 60);
        });
        Sentences.test(section, "there are no past rounds,", () -> {
            RevealBeacon x = used();
            due("past(1) before", x.past(1), -9);
            x.begin(3, 2);
            due("past(0)", x.past(0), -1);
            due("past(1)", x.past(1), -1);
            due("the round", x.told(3), 0);
            x = Beacons.secondRound();
            x.begin(2, 1);
            due("past(0)", x.past(0), -1);
            x.tick(4);
            x.next();
            due("past(0) of the new ones", x.past(0), -9);
        });
        Sentences.test(section, "and the first round begins at the clock 0.", () -> {
            RevealBeacon x = used();
            x.begin(3, 2);
            due("the clock", x.told(2), 0);
            due("the round", x.told(3), 0);
            due("the phase", x.told(4), 0);
            due("the age", x.told(5), 0);
            due("the output", x.told(11), -9);
            due("the tick before the last", x.tick(6), 0);
            due("the last tick", x.tick(1), 3);
        });
        Sentences.test(section, "The settings and the seed stay.", () -> {
            RevealBeacon x = used();
            int seed = x.told(7);
            x.begin(8, 8);
            int[] settings = {7, 6, 5, 0, 7, 1};
            for (int i = 0; i < 6; i++) {
                due("setting(" + i + ")", x.setting(i), settings[i]);
            }
            due("the seed", x.told(7), seed);
            due("it is another one", seed == 1 ? 1 : 0, 0);
        });
        Sentences.test(section, "This is a change.", () -> {
            Checks.change("begin(8, 8)", ChangeCases::used, x -> x.begin(8, 8), 3);
            Checks.change("begin(2, 1)", Beacons::closed, x -> x.begin(2, 1), 1);
            RevealBeacon x = Beacons.lastRound();
            x.begin(3, 2);
            x.commit(0, 100, 5);
            x.tick(4);
            x.next();
            x.undo();
            x.undo();
            x.undo();
            due("undo()", x.undo(), 4);
            due("the past is back", x.past(28), -9);
            due("the 30 rounds are back", x.next(), RevealBeacon.FULL);
        });
    }

    private static void beginRange() {
        String section = "Promise 2: begin";
        Sentences.test(section, "`members`: M, 2 to 8", () -> {
            Checks.change("begin(2, 1)", Beacons::closed, x -> x.begin(2, 1), 1);
            Checks.change("begin(8, 1)", Beacons::closed, x -> x.begin(8, 1), 1);
            int[] out = {1, 9, 0, -1, -2, MAX, MIN};
            for (int m : out) {
                bad("begin(" + m + ", 1)", Beacons::closed, x -> x.begin(m, 1));
            }
        });
        Sentences.test(section, "`threshold`: T, 1 to members", () -> {
            for (int m = 2; m <= 8; m++) {
                int members = m;
                Checks.change("begin(" + m + ", 1)", Beacons::closed, x -> x.begin(members, 1), 1);
                Checks.change("begin(" + m + ", " + m + ")", Beacons::closed, x -> x.begin(members, members), 1);
                bad("begin(" + m + ", 0)", Beacons::closed, x -> x.begin(members, 0));
                bad("begin(" + m + ", " + (m + 1) + ")", Beacons::closed, x -> x.begin(members, members + 1));
            }
        });
        Sentences.test(section, "Returns the number of rounds that there were, with the present one;", () -> {
            due("at first", new RevealBeacon().begin(3, 2), 1);
            due("in the third", used().begin(3, 2), 3);
            due("in the 29th", Beacons.round(28).begin(3, 2), 29);
            due("in the 30th", Beacons.lastRound().begin(3, 2), 30);
            RevealBeacon x = used();
            x.begin(3, 2);
            due("begin() again", x.begin(3, 2), 1);
        });
        Sentences.test(section, "BAD if an argument is out of range.", () -> {
            int[][] out = {{1, 1}, {9, 9}, {1, 2}, {9, 10}, {3, 4}, {3, -1}, {3, MAX}, {3, MIN}, {MAX, MAX}, {MIN, MIN}};
            for (int[] b : out) {
                bad("begin(" + b[0] + ", " + b[1] + ")", ChangeCases::used, x -> x.begin(b[0], b[1]));
            }
        });
    }

    private static void set() {
        String section = "Promise 3: set";
        int[] first = {4, 4, 4, 5, 3, 0};
        int[] low = {1, 1, 1, 0, 0, 0};
        int[] high = {20, 20, 20, 20, 20, 1};
        Sentences.test(section, "Changes a setting.", () -> {
            for (int i = 0; i < 6; i++) {
                RevealBeacon x = new RevealBeacon();
                x.set(i, high[i]);
                for (int other = 0; other < 6; other++) {
                    due("setting(" + other + ")", x.setting(other), other == i ? high[i] : first[other]);
                }
            }
        });
        Sentences.test(section, "This is a change.", () -> {
            for (int i = 0; i < 6; i++) {
                int setting = i;
                Checks.change("set(" + i + ", low)", Beacons::recovery, x -> x.set(setting, low[setting]), first[i]);
                Checks.change("set(" + i + ", same)", Beacons::fresh, x -> x.set(setting, first[setting]), first[i]);
            }
        });
        Sentences.test(section, "`setting`: the setting, 0 to 5", () -> {
            Checks.change("set(0, 1)", Beacons::closed, x -> x.set(0, 1), 4);
            Checks.change("set(5, 1)", Beacons::closed, x -> x.set(5, 1), 0);
            int[] out = {-1, 6, MAX, MIN};
            for (int i : out) {
                bad("set(" + i + ", 1)", Beacons::closed, x -> x.set(i, 1));
            }
        });
        Sentences.test(section, "`value`: the new value", () -> {
            for (int i = 0; i < 6; i++) {
                RevealBeacon x = new RevealBeacon();
                x.set(i, low[i]);
                due("setting(" + i + ") to the least", x.setting(i), low[i]);
                x.set(i, high[i]);
                due("setting(" + i + ") to the greatest", x.setting(i), high[i]);
            }
        });
        Sentences.test(section, "Returns the previous value;", () -> {
            for (int i = 0; i < 6; i++) {
                RevealBeacon x = new RevealBeacon();
                due("set(" + i + ", high)", x.set(i, high[i]), first[i]);
                due("set(" + i + ", low)", x.set(i, low[i]), high[i]);
                due("set(" + i + ", low) again", x.set(i, low[i]), low[i]);
            }
        });
        Sentences.test(section, "BAD if there is no such setting or the value is out of its range.", () -> {
            for (int i = 0; i < 6; i++) {
                int setting = i;
                int[] out = {low[i] - 1, high[i] + 1, MIN, MAX};
                for (int value : out) {
                    bad("set(" + i + ", " + value + ")", Beacons::recovery, x -> x.set(setting, value));
                }
            }
            bad("set(6, 21)", Beacons::recovery, x -> x.set(6, 21));
        });
    }

    private static void setSeed() {
        String section = "Promise 4: setSeed";
        Sentences.test(section, "Sets the seed.", () -> {
            int[] seeds = {0, 1, 2, 65536, MAX - 1, MAX};
            for (int seed : seeds) {
                RevealBeacon x = Beacons.bound();
                x.setSeed(seed);
                due("the seed", x.told(7), seed);
            }
        });
        Sentences.test(section, "This is a change.", () ->
            Checks.change("setSeed(9)", Beacons::bound, x -> x.setSeed(9), 662824084));
        Sentences.test(section, "`seed`: the new seed, 0 or more", () -> {
            Checks.change("setSeed(0)", Beacons::fresh, x -> x.setSeed(0), 1);
            Checks.change("setSeed(max)", Beacons::fresh, x -> x.setSeed(MAX), 1);
            bad("setSeed(-1)", Beacons::fresh, x -> x.setSeed(-1));
        });
        Sentences.test(section, "Returns the previous seed;", () -> {
            RevealBeacon x = new RevealBeacon();
            due("setSeed(max)", x.setSeed(MAX), 1);
            due("setSeed(0)", x.setSeed(0), MAX);
            due("setSeed(5)", x.setSeed(5), 0);
            x.commit(0, 1, 1);
            due("after a draw", x.setSeed(5), (int) ((1103515245L * 5 + 12345) % 2147483648L));
        });
        Sentences.test(section, "BAD if seed is negative.", () -> {
            bad("setSeed(-1)", Beacons::bound, x -> x.setSeed(-1));
            bad("setSeed(min)", Beacons::bound, x -> x.setSeed(MIN));
        });
    }

    private static void turn() {
        String section = "Promise 5: turn";
        Sentences.test(section, "Switches a member on or off;", () -> {
            RevealBeacon x = Beacons.of(8, 2);
            x.turn(7, 0);
            x.turn(0, 0);
            due("the member 7", x.member(7, 1), 0);
            due("the member 0", x.member(0, 1), 0);
            due("the member 1", x.member(1, 1), 1);
            due("members that are on", x.told(13), 6);
            due("commit() when off", x.commit(7, 1, 1), -2);
            x.turn(7, 1);
            due("the member 7", x.member(7, 1), 1);
            due("commit() when on", x.commit(7, 1, 1), x.commitment(7, 1, 1));
        });
        Sentences.test(section, "what it has done stays.", () -> {
            RevealBeacon x = Beacons.revelations();
            x.reveal(0, 0, 0);
            x.reveal(0, 100, 5);
            x.turn(0, 0);
            due("its commitment", x.member(0, 2), 3373);
            due("its secret", x.member(0, 3), 100);
            due("its fines", x.member(0, 6), 1);
            due("its mark", x.mark(0, 1), 743);
            x.tick(4);
            x.give(2, 1);
            x.turn(2, 0);
            due("its share", x.share(1, 2), 62);
            x.turn(0, 1);
            due("its share counts", x.give(0, 1), 2);
            due("recovered", x.member(1, 3), 7);
            x.turn(0, 0);
            x.tick(4);
            due("one that has revealed is paid when off", x.member(0, 0), 30);
            due("its secret counts", x.told(11), 99);
        });
        Sentences.test(section, "This is a change.", () -> {
            Checks.change("turn(2, 0)", Beacons::recovery, x -> x.turn(2, 0), 1);
            Checks.change("turn(2, 1)", Beacons::recovery, x -> x.turn(2, 1), 1);
        });
        Sentences.test(section, "`member`: the member", () -> {
            for (int m = 2; m <= 8; m++) {
                int members = m;
                Supplier<RevealBeacon> setup = () -> Beacons.of(members, 2);
                Checks.change("turn(0, 0)", setup, x -> x.turn(0, 0), 1);
                Checks.change("turn(M - 1, 0)", setup, x -> x.turn(members - 1, 0), 1);
                bad("turn(M, 0)", setup, x -> x.turn(members, 0));
            }
        });
        Sentences.test(section, "`on`: 1 for on, 0 for off", () -> {
            RevealBeacon x = new RevealBeacon();
            x.turn(0, 0);
            due("0 is off", x.told(13), 2);
            x.turn(0, 1);
            due("1 is on", x.told(13), 3);
        });
        Sentences.test(section, "Returns 1 if it was on, otherwise 0;", () -> {
            RevealBeacon x = new RevealBeacon();
            due("turn(1, 1)", x.turn(1, 1), 1);
            due("turn(1, 0)", x.turn(1, 0), 1);
            due("turn(1, 0)", x.turn(1, 0), 0);
            due("turn(1, 1)", x.turn(1, 1), 0);
            due("turn(1, 1)", x.turn(1, 1), 1);
        });
        Sentences.test(section, "BAD if there is no such member or on is out of range.", () -> {
            int[][] out = {{3, 0}, {-1, 0}, {8, 1}, {0, 2}, {0, -1}, {MAX, 1}, {MIN, 1}, {0, MAX}, {0, MIN}, {3, 2}};
            for (int[] b : out) {
                bad("turn(" + b[0] + ", " + b[1] + ")", Beacons::recovery, x -> x.turn(b[0], b[1]));
            }
        });
    }

    private static void pay() {
        String section = "Promise 6: pay";
        Sentences.test(section, "Adds to the deposit of a member.", () -> {
            RevealBeacon x = new RevealBeacon();
            x.pay(1, 7);
            x.pay(1, 50);
            due("the deposit", x.member(1, 0), 77);
            due("the others", x.member(0, 0) + x.member(2, 0), 40);
            due("the sum", x.told(12), 117);
            due("the pool", x.told(6), 0);
            x.turn(2, 0);
            due("one that is off", x.pay(2, 1), 21);
        });
        Sentences.test(section, "This is a change.", () ->
            Checks.change("pay(2, 50)", Beacons::recovery, x -> x.pay(2, 50), 65));
        Sentences.test(section, "`member`: the member", () -> {
            Supplier<RevealBeacon> eight = () -> Beacons.of(8, 2);
            Checks.change("pay(0, 1)", eight, x -> x.pay(0, 1), 21);
            Checks.change("pay(7, 1)", eight, x -> x.pay(7, 1), 21);
            bad("pay(8, 1)", eight, x -> x.pay(8, 1));
        });
        Sentences.test(section, "`amount`: 1 to 50", () -> {
            Checks.change("pay(0, 1)", Beacons::fresh, x -> x.pay(0, 1), 21);
            Checks.change("pay(0, 50)", Beacons::fresh, x -> x.pay(0, 50), 70);
            bad("pay(0, 0)", Beacons::fresh, x -> x.pay(0, 0));
            bad("pay(0, 51)", Beacons::fresh, x -> x.pay(0, 51));
        });
        Sentences.test(section, "Returns the deposit then;", () -> {
            RevealBeacon x = new RevealBeacon();
            for (int i = 1; i <= 19; i++) {
                due("pay(0, 50)", x.pay(0, 50), 20 + 50 * i);
            }
        });
        Sentences.test(section, "BAD if there is no such member or amount is out of range;", () -> {
            int[][] out = {{3, 1}, {-1, 1}, {8, 1}, {0, 0}, {0, 51}, {0, -1}, {0, MAX}, {0, MIN}, {MAX, 1}, {MIN, 1}};
            for (int[] b : out) {
                bad("pay(" + b[0] + ", " + b[1] + ")", Beacons::recovery, x -> x.pay(b[0], b[1]));
                bad("pay(" + b[0] + ", " + b[1] + ")", Beacons::rich, x -> x.pay(b[0], b[1]));
            }
        });
        Sentences.test(section, "FULL if it would be above 999.", () -> {
            Checks.change("pay() to 998", Beacons::rich, x -> x.pay(0, 28), 998);
            Checks.change("pay() to 999", Beacons::rich, x -> x.pay(0, 29), 999);
            Checks.refused("pay() to 1000", Beacons::rich, x -> x.pay(0, 30), -3);
            Checks.refused("pay() to 1020", Beacons::rich, x -> x.pay(0, 50), -3);
            Checks.refused("pay() of 1 to 999", ChangeCases::full, x -> x.pay(0, 1), -3);
            Checks.change("pay() to another one", ChangeCases::full, x -> x.pay(1, 1), 21);
            RevealBeacon x = full();
            x.reveal(0, 100, 5);
            x.tick(8);
            due("a payment from the pool is no pay()", x.member(0, 0), 1009);
            due("pay() above it", x.pay(0, 1), -3);
        });
    }

    /** The member 0 has 999, in the phase 1. */
    private static RevealBeacon full() {
        RevealBeacon x = Beacons.revelations();
        for (int i = 0; i < 19; i++) {
            x.pay(0, 50);
        }
        x.pay(0, 29);
        return x;
    }
}
