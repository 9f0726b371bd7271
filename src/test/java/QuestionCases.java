import java.util.function.Supplier;
import java.util.function.ToLongFunction;

/** Promises 14 to 21. */
final class QuestionCases {
    private static final int MAX = Integer.MAX_VALUE, MIN = Integer.MIN_VALUE;
    /** No members, for three of them. */
    private static final int[] NOBODY = {3, -1, 8, MAX, MIN};

    private QuestionCases() {
    }

    static void run() {
        told();
        toldOfTheRound();
        toldOfAll();
        setting();
        member();
        memberRange();
        mark();
        share();
        commitment();
        openings();
        openingsRefused();
        past();
    }

    private static void due(String call, long got, long want) {
        Checks.due(call, got, want);
    }

    private static void bad(String call, Supplier<RevealBeacon> setup, ToLongFunction<RevealBeacon> run) {
        Checks.refused(call, setup, run, RevealBeacon.BAD);
    }

    private static void dueTold(Supplier<RevealBeacon> setup, int what, int want) {
        Checks.query("told(" + what + ")", setup, x -> x.told(what), want);
    }

    private static void told() {
        String section = "Promise 14: told";
        Sentences.test(section, "Returns a number.", () -> {
            int[] want = {3, 2, 8, 0, 2, 0, 10, 662824084, 3, 1, 0, -9, 60, 3, 7};
            for (int what = 0; what <= 14; what++) {
                dueTold(Beacons::oneShare, what, want[what]);
            }
        });
        Sentences.test(section, "`what`: 0 M; 1 T;", () -> {
            for (int m = 2; m <= 8; m++) {
                for (int t = 1; t <= m; t++) {
                    RevealBeacon x = Beacons.of(m, t);
                    due("M", x.told(0), m);
                    due("T", x.told(1), t);
                }
            }
        });
        Sentences.test(section, "2 the clock;", () -> {
            dueTold(Beacons::fresh, 2, 0);
            dueTold(Beacons::closed, 2, 12);
            dueTold(Beacons::secondRound, 2, 12);
        });
        Sentences.test(section, "3 the number of the present round, 0 for the first one;", () -> {
            dueTold(Beacons::closed, 3, 0);
            dueTold(Beacons::secondRound, 3, 1);
            dueTold(Beacons::lastRound, 3, 29);
        });
        Sentences.test(section, "4 the phase;", () -> {
            dueTold(Beacons::bound, 4, 0);
            dueTold(Beacons::revelations, 4, 1);
            dueTold(Beacons::recovery, 4, 2);
            dueTold(Beacons::closed, 4, 3);
            dueTold(Beacons::failed, 4, 3);
        });
        Sentences.test(section, "5 the age;", () -> {
            RevealBeacon x = Beacons.bound();
            x.tick(3);
            due("at the last tick", x.told(5), 3);
            x.tick(1);
            due("of a new phase", x.told(5), 0);
            x.tick(60);
            due("in the phase 3", x.told(5), 52);
        });
        Sentences.test(section, "6 the pool;", () -> {
            dueTold(Beacons::fresh, 6, 0);
            dueTold(Beacons::recovery, 6, 10);
            dueTold(Beacons::closed, 6, 0);
        });
        Sentences.test(section, "7 the seed;", () -> {
            dueTold(Beacons::fresh, 7, 1);
            dueTold(Beacons::bound, 7, 662824084);
            RevealBeacon x = new RevealBeacon();
            x.setSeed(MAX);
            due("the greatest", x.told(7), MAX);
            x.setSeed(0);
            due("the least", x.told(7), 0);
        });
    }

    private static void toldOfTheRound() {
        String section = "Promise 14: told";
        Sentences.test(section, "8 members that have committed themselves in this round;", () -> {
            for (int m = 2; m <= 8; m++) {
                RevealBeacon x = Beacons.of(m, 1);
                for (int i = 0; i < m; i++) {
                    due("committed", x.told(8), i);
                    x.commit(m - 1 - i, 0, 0);
                }
                due("all committed", x.told(8), m);
                x.tick(12);
                due("in the phase 3", x.told(8), m);
                x.next();
                due("in the next round", x.told(8), 0);
            }
            due("one is recovered, one revealed", Beacons.closed().told(8), 3);
            RevealBeacon x = Beacons.bound();
            x.turn(0, 0);
            due("one that is off counts", x.told(8), 3);
        });
        Sentences.test(section, "9 of these, those whose secrets are revealed;", () -> {
            for (int m = 2; m <= 8; m++) {
                RevealBeacon x = Beacons.powers(m, 1);
                for (int i = 0; i < m; i++) {
                    due("revealed", x.told(9), i);
                    Beacons.revealPower(x, m - 1 - i);
                }
                due("all revealed", x.told(9), m);
                x.tick(4);
                due("in the phase 3", x.told(9), m);
                x.next();
                due("in the next round", x.told(9), 0);
            }
            due("a recovered one does not count", Beacons.closed().told(9), 1);
        });
        Sentences.test(section, "10 those whose secrets are recovered;", () -> {
            for (int m = 2; m <= 8; m++) {
                RevealBeacon x = Beacons.powersLost(m, 1);
                for (int i = 0; i < m; i++) {
                    due("recovered", x.told(10), i);
                    x.give(i == 0 ? 1 : 0, i);
                }
                due("all recovered", x.told(10), m);
                x.tick(4);
                due("in the phase 3", x.told(10), m);
                x.next();
                due("in the next round", x.told(10), 0);
            }
            due("a revealed one does not count", Beacons.closed().told(10), 1);
            due("one share too few", Beacons.oneShare().told(10), 0);
        });
        Sentences.test(section, "11 the output of this round (NONE also if the phase is not 3);", () -> {
            dueTold(Beacons::fresh, 11, -9);
            dueTold(Beacons::oneRevealed, 11, -9);
            dueTold(Beacons::recovery, 11, -9);
            dueTold(Beacons::closed, 11, 99);
            dueTold(Beacons::failed, 11, -9);
            dueTold(Beacons::secondRound, 11, -9);
            RevealBeacon x = Beacons.powersLost(3, 3);
            x.tick(4);
            due("all lost", x.told(11), -9);
        });
    }

    private static void toldOfAll() {
        String section = "Promise 14: told";
        Sentences.test(section, "12 the sum of all deposits and the pool;", () -> {
            dueTold(Beacons::fresh, 12, 60);
            dueTold(Beacons::recovery, 12, 60);
            dueTold(Beacons::closed, 12, 60);
            dueTold(Beacons::rich, 12, 1010);
            due("of two", Beacons.of(2, 1).told(12), 40);
            due("of eight", Beacons.of(8, 1).told(12), 160);
            RevealBeacon x = Beacons.recovery();
            x.pay(1, 7);
            x.turn(1, 0);
            due("with one that is off", x.told(12), 67);
        });
        Sentences.test(section, "13 members that are on;", () -> {
            for (int m = 2; m <= 8; m++) {
                RevealBeacon x = Beacons.of(m, 1);
                for (int i = m - 1; i >= 0; i--) {
                    due("on", x.told(13), i + 1);
                    x.turn(i, 0);
                }
                due("none", x.told(13), 0);
            }
        });
        Sentences.test(section, "14 changes that can be undone", () -> {
            RevealBeacon x = new RevealBeacon();
            for (int i = 0; i < 12; i++) {
                due("told(14)", x.told(14), Math.min(i, 8));
                x.setSeed(i);
            }
            x.undo();
            due("after undo()", x.told(14), 7);
        });
        Sentences.test(section, "Returns the number; BAD if what is out of range.", () -> {
            int[] out = {-1, 15, MAX, MIN};
            for (int what : out) {
                bad("told(" + what + ")", Beacons::closed, x -> x.told(what));
            }
            dueTold(Beacons::closed, 0, 3);
            dueTold(Beacons::bound, 14, 3);
        });
    }

    private static void setting() {
        String section = "Promise 15: setting";
        int[] first = {4, 4, 4, 5, 3, 0};
        Sentences.test(section, "Returns a setting.", () -> {
            for (int i = 0; i < 6; i++) {
                int setting = i;
                Checks.query("setting(" + i + ")", Beacons::closed, x -> x.setting(setting), first[i]);
            }
        });
        Sentences.test(section, "`setting`: the setting", () -> {
            Checks.query("setting(0)", Beacons::fresh, x -> x.setting(0), 4);
            Checks.query("setting(5)", Beacons::fresh, x -> x.setting(5), 0);
        });
        Sentences.test(section, "Returns its value;", () -> {
            for (int i = 0; i < 6; i++) {
                RevealBeacon x = new RevealBeacon();
                x.set(i, 1);
                for (int other = 0; other < 6; other++) {
                    due("setting(" + other + ")", x.setting(other), other == i ? 1 : first[other]);
                }
            }
        });
        Sentences.test(section, "BAD if there is no such setting.", () -> {
            int[] out = {-1, 6, MAX, MIN};
            for (int i : out) {
                bad("setting(" + i + ")", Beacons::closed, x -> x.setting(i));
            }
        });
    }

    private static void dueMember(Supplier<RevealBeacon> setup, int member, int what, int want) {
        Checks.query("member(" + member + ", " + what + ")", setup, x -> x.member(member, what), want);
    }

    private static void member() {
        String section = "Promise 16: member";
        Sentences.test(section, "Returns a number of a member.", () -> {
            int[][] want = {{30, 1, 3373, 100, 0, 2, 0}, {15, 1, 8416, 7, 2, 3, 1}, {15, 1, 6373, -9, 0, 1, 1}};
            for (int i = 0; i < 3; i++) {
                for (int what = 0; what <= 6; what++) {
                    dueMember(Beacons::closed, i, what, want[i][what]);
                }
            }
        });
        Sentences.test(section, "`what`: 0 its deposit;", () -> {
            dueMember(Beacons::fresh, 2, 0, 20);
            dueMember(Beacons::rich, 0, 0, 970);
            dueMember(() -> Beacons.poor(0), 0, 0, 0);
        });
        Sentences.test(section, "1 whether it is on (1 or 0);", () -> {
            RevealBeacon x = new RevealBeacon();
            x.turn(1, 0);
            due("off", x.member(1, 1), 0);
            due("on", x.member(0, 1), 1);
            x.tick(4);
            x.next();
            due("off in the next round", x.member(1, 1), 0);
        });
        Sentences.test(section, "2 its commitment in this round;", () -> {
            dueMember(Beacons::bound, 1, 2, 8416);
            dueMember(Beacons::closed, 1, 2, 8416);
            dueMember(Beacons::failed, 0, 2, 3373);
        });
        Sentences.test(section, "3 its secret, if it is revealed or recovered;", () -> {
            dueMember(Beacons::bound, 0, 3, -9);
            dueMember(Beacons::oneRevealed, 0, 3, 100);
            dueMember(Beacons::oneRevealed, 1, 3, -9);
            dueMember(Beacons::oneShare, 1, 3, -9);
            dueMember(Beacons::closed, 1, 3, 7);
            dueMember(Beacons::closed, 2, 3, -9);
        });
        Sentences.test(section, "4 how many shares of its secret are published;", () -> {
            RevealBeacon x = Beacons.powersLost(8, 7);
            for (int giver = 7; giver > 0; giver--) {
                due("shares", x.member(0, 4), 7 - giver);
                x.give(giver, 0);
            }
            due("all shares", x.member(0, 4), 7);
            due("of another one", x.member(7, 4), 0);
            x.tick(4);
            due("in the phase 3", x.member(0, 4), 7);
            x.next();
            due("in the next round", x.member(0, 4), 0);
        });
        Sentences.test(section, "5 how it stands: 0 it has not committed itself, 1 committed, 2 revealed, 3 recovered;",
            () -> {
            dueMember(Beacons::failed, 1, 5, 0);
            dueMember(Beacons::failed, 0, 5, 1);
            dueMember(Beacons::recovery, 1, 5, 1);
            dueMember(Beacons::oneRevealed, 0, 5, 2);
            dueMember(Beacons::closed, 0, 5, 2);
            dueMember(Beacons::closed, 1, 5, 3);
            dueMember(Beacons::secondRound, 1, 5, 0);
        });
        Sentences.test(section, "6 how many fines it has got since begin(), also such of 0.", () -> {
            RevealBeacon x = Beacons.revelations();
            x.set(3, 0);
            x.set(4, 0);
            x.reveal(0, 0, 0);
            due("a fine of 0 for falsehood", x.member(0, 6), 1);
            x.tick(4);
            due("a fine of 0 for silence", x.member(0, 6), 2);
            x.publish(0, 1, 0);
            due("a fine of 0 for a false share", x.member(0, 6), 3);
            due("its deposit", x.member(0, 0), 20);
            x.tick(4);
            x.next();
            due("fines of past rounds count", x.member(0, 6), 3);
            x.begin(3, 2);
            due("fines since begin()", x.member(0, 6), 0);
            x = Beacons.poor(0);
            due("both fines of the first round", x.member(0, 6), 2);
            x.commit(0, 1, 1);
            x.commit(1, 1, 1);
            x.tick(4);
            x.reveal(0, 0, 0);
            due("a fine without a deposit", x.member(0, 6), 3);
            x = Beacons.powers(8, 2);
            for (int i = 0; i < 8; i++) {
                for (int k = 0; k < i; k++) {
                    x.reveal(i, 0, 0);
                }
            }
            x.tick(4);
            for (int i = 0; i < 8; i++) {
                due("the fines of " + i + " of 8", x.member(i, 6), i + 1);
            }
        });
        Sentences.test(section, "For 2 and 3 NONE if there is none.", () -> {
            dueMember(Beacons::fresh, 0, 2, -9);
            dueMember(Beacons::fresh, 0, 3, -9);
            dueMember(Beacons::failed, 1, 2, -9);
            dueMember(Beacons::secondRound, 0, 2, -9);
            dueMember(Beacons::secondRound, 0, 3, -9);
            dueMember(Beacons::secondRound, 1, 3, -9);
        });
    }

    private static void memberRange() {
        String section = "Promise 16: member";
        Sentences.test(section, "- `member`: the member", () -> {
            for (int m = 2; m <= 8; m++) {
                int members = m;
                Supplier<RevealBeacon> setup = () -> Beacons.of(members, 1);
                dueMember(setup, 0, 0, 20);
                dueMember(setup, m - 1, 0, 20);
                dueMember(setup, m, 0, -1);
            }
        });
        Sentences.test(section, "Returns the number; BAD if there is no such member or what is out of range.", () -> {
            for (int i : NOBODY) {
                for (int what = 0; what <= 6; what++) {
                    dueMember(Beacons::closed, i, what, -1);
                }
            }
            int[] out = {-1, 7, MAX, MIN};
            for (int what : out) {
                dueMember(Beacons::closed, 0, what, -1);
                dueMember(Beacons::fresh, 2, what, -1);
            }
        });
    }

    private static void dueMark(Supplier<RevealBeacon> setup, int owner, int giver, int want) {
        Checks.query("mark(" + owner + ", " + giver + ")", setup, x -> x.mark(owner, giver), want);
    }

    private static void mark() {
        String section = "Promise 17: mark";
        int[][] want = {{7547, 743, 6328}, {760, 4181, 9754}, {4478, 1763, 1039}};
        Sentences.test(section, "Returns the mark of a share.", () -> {
            for (int i = 0; i < 3; i++) {
                for (int j = 0; j < 3; j++) {
                    dueMark(Beacons::bound, i, j, want[i][j]);
                }
            }
        });
        Sentences.test(section, "`owner`: the member whose secret it is", () -> {
            dueMark(() -> Beacons.powersBound(8, 1), 0, 4, 91 + 3 + 4);
            dueMark(() -> Beacons.powersBound(8, 1), 7, 4, (91 * 128 * 128 + 3 * 128 + 4) % 10007);
        });
        Sentences.test(section, "`giver`: a member, possibly the same", () -> {
            dueMark(() -> Beacons.powersBound(8, 1), 0, 0, 91 + 3);
            dueMark(() -> Beacons.powersBound(8, 1), 0, 7, 91 + 3 + 7);
            dueMark(() -> Beacons.powersBound(8, 1), 7, 7, (91 * 128 * 128 + 3 * 128 + 7) % 10007);
            dueMark(Beacons::failed, 0, 1, 743);
        });
        Sentences.test(section, "Returns the mark;", () -> {
            for (int i = 0; i < 3; i++) {
                for (int j = 0; j < 3; j++) {
                    dueMark(Beacons::revelations, i, j, want[i][j]);
                    dueMark(Beacons::closed, i, j, want[i][j]);
                }
            }
        });
        Sentences.test(section, "NONE if the owner has not committed itself in this round;", () -> {
            dueMark(Beacons::fresh, 0, 0, -9);
            dueMark(Beacons::failed, 1, 0, -9);
            dueMark(Beacons::secondRound, 0, 1, -9);
        });
        Sentences.test(section, "BAD if there is no such member.", () -> {
            for (int i : NOBODY) {
                dueMark(Beacons::bound, i, 0, -1);
                dueMark(Beacons::bound, 0, i, -1);
                dueMark(Beacons::fresh, 0, i, -1);
                dueMark(Beacons::fresh, i, i, -1);
            }
        });
    }

    private static void dueShare(Supplier<RevealBeacon> setup, int owner, int giver, int want) {
        Checks.query("share(" + owner + ", " + giver + ")", setup, x -> x.share(owner, giver), want);
    }

    private static void share() {
        String section = "Promise 18: share";
        Sentences.test(section, "Returns a published share.", () -> {
            int[][] want = {{-9, -9, -9}, {111, -9, 62}, {-9, -9, -9}};
            for (int i = 0; i < 3; i++) {
                for (int j = 0; j < 3; j++) {
                    dueShare(Beacons::closed, i, j, want[i][j]);
                }
            }
        });
        Sentences.test(section, "`owner`: the member whose secret it is", () -> {
            RevealBeacon x = allGiven();
            due("share(0, 7)", x.share(0, 7), 1);
            due("share(7, 0)", x.share(7, 0), 128);
        });
        Sentences.test(section, "`giver`: a member", () -> {
            RevealBeacon x = allGiven();
            for (int i = 1; i < 8; i++) {
                due("share(0, " + i + ")", x.share(0, i), i == 7 ? 1 : -9);
            }
            due("the same", x.share(0, 0), -9);
        });
        Sentences.test(section, "Returns the share;", () -> {
            dueShare(Beacons::oneShare, 1, 2, 62);
            dueShare(Beacons::closed, 1, 0, 111);
        });
        Sentences.test(section, "NONE if it is not published;", () -> {
            dueShare(Beacons::fresh, 0, 0, -9);
            dueShare(Beacons::bound, 0, 1, -9);
            dueShare(Beacons::recovery, 1, 2, -9);
            dueShare(Beacons::oneShare, 2, 1, -9);
            dueShare(Beacons::oneShare, 1, 1, -9);
            dueShare(Beacons::secondRound, 1, 2, -9);
        });
        Sentences.test(section, "BAD if there is no such member.", () -> {
            for (int i : NOBODY) {
                dueShare(Beacons::closed, i, 0, -1);
                dueShare(Beacons::closed, 0, i, -1);
                dueShare(Beacons::fresh, i, i, -1);
            }
        });
    }

    /** Eight members, one share for each of their secrets, by the member 7, or by 0 for its own. */
    private static RevealBeacon allGiven() {
        RevealBeacon x = Beacons.powersLost(8, 1);
        for (int i = 0; i < 8; i++) {
            due("give()", x.give(i == 7 ? 0 : 7, i), 1);
        }
        return x;
    }

    private static void dueCommitment(Supplier<RevealBeacon> setup, int member, int secret, int salt, int want) {
        String call = "commitment(" + member + ", " + secret + ", " + salt + ")";
        Checks.query(call, setup, x -> x.commitment(member, secret, salt), want);
    }

    private static void commitment() {
        String section = "Promise 19: commitment";
        Sentences.test(section, "Computes a commitment; nothing changes.", () -> {
            dueCommitment(Beacons::fresh, 0, 100, 5, 3373);
            dueCommitment(Beacons::bound, 0, 1, 1, 60);
            dueCommitment(Beacons::closed, 2, 255, 0, 6373);
            RevealBeacon x = new RevealBeacon();
            x.turn(1, 0);
            due("of one that is off", x.commitment(1, 1, 1), 1060);
        });
        Sentences.test(section, "`member`: the member", () -> {
            for (int i = 0; i < 8; i++) {
                dueCommitment(() -> Beacons.of(8, 8), i, 0, 0, 1000 * i + 5);
            }
            dueCommitment(() -> Beacons.of(8, 8), 8, 0, 0, -1);
        });
        Sentences.test(section, "`secret`: the secret, 0 to 255", () -> {
            dueCommitment(Beacons::fresh, 0, 0, 0, 5);
            dueCommitment(Beacons::fresh, 0, 255, 0, 4373);
            dueCommitment(Beacons::fresh, 0, -1, 0, -1);
            dueCommitment(Beacons::fresh, 0, 256, 0, -1);
        });
        Sentences.test(section, "`salt`: the salt, 0 to 999", () -> {
            dueCommitment(Beacons::fresh, 1, 7, 0, 2524);
            dueCommitment(Beacons::fresh, 1, 7, 999, 8416);
            dueCommitment(Beacons::fresh, 1, 7, -1, -1);
            dueCommitment(Beacons::fresh, 1, 7, 1000, -1);
        });
        Sentences.test(section, "Returns the commitment;", () -> {
            RevealBeacon x = new RevealBeacon();
            for (long k = 0; k < 500; k++) {
                long s = k * 111 % 256;
                long v = 999 - k * 7 % 1000;
                long want = (31 * s * s + 17 * v + 7 * s * v + 1000 * (k % 3) + 5) % 10007;
                due("commitment() of " + s + " and " + v, x.commitment((int) k % 3, (int) s, (int) v), want);
            }
        });
        Sentences.test(section, "BAD if there is no such member or another argument is out of range.", () -> {
            for (int i : NOBODY) {
                dueCommitment(Beacons::closed, i, 0, 0, -1);
            }
            int[] noSecrets = {-1, 256, MAX, MIN};
            int[] noSalts = {-1, 1000, MAX, MIN};
            for (int k = 0; k < 4; k++) {
                dueCommitment(Beacons::closed, 0, noSecrets[k], 0, -1);
                dueCommitment(Beacons::closed, 0, 0, noSalts[k], -1);
            }
        });
    }

    private static void dueOpenings(Supplier<RevealBeacon> setup, int member, int secret, int want) {
        Checks.query("openings(" + member + ", " + secret + ")", setup, x -> x.openings(member, secret), want);
    }

    private static void openings() {
        String section = "Promise 20: openings";
        Sentences.test(section, "Counts the pairs of a secret and a salt that have the commitment of a member.", () -> {
            int[][] pairs = {{0, 0}, {0, 999}, {255, 999}, {255, 0}, {1, 588}, {128, 1}};
            for (int[] pair : pairs) {
                RevealBeacon x = Beacons.of(8, 1);
                int commitment = x.commit(7, pair[0], pair[1]);
                int all = 0;
                for (int s = 0; s < 256; s++) {
                    int count = 0;
                    for (int v = 0; v < 1000; v++) {
                        count += (31 * s * s + 17 * v + 7 * s * v + 7005) % 10007 == commitment ? 1 : 0;
                    }
                    due("openings(7, " + s + ")", x.openings(7, s), count);
                    all += count;
                }
                due("openings(7, -1)", x.openings(7, -1), all);
            }
        });
        Sentences.test(section, "`member`: the member", () -> {
            dueOpenings(() -> Beacons.powersBound(8, 1), 0, 1, 1);
            dueOpenings(() -> Beacons.powersBound(8, 1), 7, 128, 1);
            dueOpenings(() -> Beacons.powersBound(8, 1), 8, 128, -1);
        });
        Sentences.test(section, "`secret`: a secret, 0 to 255, or -1 for all secrets", () -> {
            dueOpenings(() -> committedTo(0, 0), 0, 0, 1);
            dueOpenings(() -> committedTo(0, 999), 0, 0, 1);
            dueOpenings(() -> committedTo(255, 0), 0, 255, 1);
            dueOpenings(() -> committedTo(255, 999), 0, 255, 1);
            dueOpenings(Beacons::bound, 0, -1, 29);
            dueOpenings(Beacons::bound, 0, -2, -1);
            dueOpenings(Beacons::bound, 0, 256, -1);
        });
        Sentences.test(section, "Returns how many pairs with this secret, or of all, have it;", () -> {
            dueOpenings(Beacons::bound, 0, 100, 1);
            dueOpenings(Beacons::bound, 0, 1, 1);
            dueOpenings(Beacons::bound, 0, 2, 0);
            dueOpenings(Beacons::bound, 1, -1, 26);
            dueOpenings(Beacons::closed, 2, -1, 27);
            dueOpenings(Beacons::failed, 0, -1, 29);
            RevealBeacon x = Beacons.of(3, 1);
            due("what 0 with the salt 1000 would have, too", x.commit(0, 16, 846), (17 * 1000 + 5) % 10007);
            due("openings(0, 0)", x.openings(0, 0), 0);
            due("openings(0, -1)", x.openings(0, -1), 23);
        });
    }

    private static RevealBeacon committedTo(int secret, int salt) {
        RevealBeacon x = new RevealBeacon();
        x.commit(0, secret, salt);
        return x;
    }

    private static void openingsRefused() {
        String section = "Promise 20: openings";
        Sentences.test(section, "NONE if the member has not committed itself in this round;", () -> {
            dueOpenings(Beacons::fresh, 0, 0, -9);
            dueOpenings(Beacons::failed, 1, -1, -9);
            dueOpenings(Beacons::failed, 1, 255, -9);
            dueOpenings(Beacons::secondRound, 0, -1, -9);
        });
        Sentences.test(section, "BAD if there is no such member or secret is out of range.", () -> {
            for (int i : NOBODY) {
                dueOpenings(Beacons::bound, i, 0, -1);
                dueOpenings(Beacons::bound, i, -1, -1);
            }
            int[] out = {-2, 256, MAX, MIN};
            for (int secret : out) {
                dueOpenings(Beacons::bound, 0, secret, -1);
                dueOpenings(Beacons::fresh, 0, secret, -1);
            }
        });
    }

    private static void duePast(Supplier<RevealBeacon> setup, int round, int want) {
        Checks.query("past(" + round + ")", setup, x -> x.past(round), want);
    }

    private static void past() {
        String section = "Promise 21: past";
        Sentences.test(section, "Returns the output of a past round.", () -> {
            duePast(Beacons::secondRound, 0, 99);
            RevealBeacon x = Beacons.of(2, 1);
            for (int round = 0; round < 30; round++) {
                x.commit(0, round, 0);
                x.commit(1, 128, 0);
                x.tick(4);
                x.reveal(0, round, 0);
                x.reveal(1, 128, 0);
                x.tick(4);
                x.next();
            }
            for (int round = 0; round < 29; round++) {
                due("past(" + round + ")", x.past(round), 128 + round);
            }
        });
        Sentences.test(section, "`round`: the round, 0 for the first one", () -> {
            RevealBeacon x = Beacons.secondRound();
            x.tick(4);
            x.next();
            due("the first one", x.past(0), 99);
            due("the second one, which failed", x.past(1), -9);
        });
        Sentences.test(section, "Returns its output;", () -> {
            RevealBeacon x = Beacons.secondRound();
            x.set(5, 1);
            x.turn(0, 0);
            due("it stays", x.past(0), 99);
            x.tick(4);
            due("it stays in the phase 3", x.past(0), 99);
        });
        Sentences.test(section, "NONE if it has none;", () -> {
            duePast(Beacons::lastRound, 0, -9);
            duePast(Beacons::lastRound, 28, -9);
        });
        Sentences.test(section, "BAD if there is no such round or it is the present one.", () -> {
            int[] out = {-1, 1, 2, 30, MAX, MIN};
            for (int round : out) {
                duePast(Beacons::secondRound, round, -1);
            }
            duePast(Beacons::fresh, 0, -1);
            duePast(Beacons::closed, 0, -1);
            duePast(Beacons::lastRound, 29, -1);
            duePast(Beacons::lastRound, 30, -1);
            duePast(Beacons::lastRound, 31, -1);
            RevealBeacon x = Beacons.secondRound();
            x.undo();
            due("past(0) after undo() of next()", x.past(0), -1);
        });
    }
}
