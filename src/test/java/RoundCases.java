import java.util.function.Supplier;
import java.util.function.ToLongFunction;

/** Promises 7 to 13. */
final class RoundCases {
    private static final int MAX = Integer.MAX_VALUE, MIN = Integer.MIN_VALUE;
    /** Members, secrets or salts that are out of range, for three members. */
    private static final int[][] NO_PAIRS = {{3, 0, 0}, {-1, 0, 0}, {8, 0, 0}, {0, 256, 0}, {0, -1, 0}, {0, 0, 1000},
        {0, 0, -1}, {MAX, 0, 0}, {MIN, 0, 0}, {0, MAX, 0}, {0, MIN, 0}, {0, 0, MAX}, {0, 0, MIN}, {3, 256, 1000}};

    private RoundCases() {
    }

    static void run() {
        commit();
        commitRefused();
        reveal();
        revealRefused();
        publish();
        publishRefused();
        give();
        giveRefused();
        tick();
        next();
        undo();
    }

    private static void due(String call, long got, long want) {
        Checks.due(call, got, want);
    }

    private static void bad(String call, Supplier<RevealBeacon> setup, ToLongFunction<RevealBeacon> run) {
        Checks.refused(call, setup, run, RevealBeacon.BAD);
    }

    private static void state(String call, Supplier<RevealBeacon> setup, ToLongFunction<RevealBeacon> run) {
        Checks.refused(call, setup, run, RevealBeacon.STATE);
    }

    private static RevealBeacon eight() {
        return Beacons.of(8, 2);
    }

    private static void commit() {
        String section = "Promise 7: commit";
        Sentences.test(section, "Commits a member to a secret.", () -> {
            RevealBeacon x = new RevealBeacon();
            x.commit(1, 7, 999);
            due("how it stands", x.member(1, 5), 1);
            due("its secret is not told", x.member(1, 3), -9);
            due("no share is published", x.member(1, 4), 0);
            due("its commitment", x.member(1, 2), 8416);
            due("members that are committed", x.told(8), 1);
            due("another one", x.member(0, 5), 0);
            x.commit(0, 0, 0);
            x.tick(4);
            due("the secret", x.honest(), 7);
        });
        Sentences.test(section, "This is a change.", () -> {
            Checks.change("commit(0, 100, 5)", Beacons::fresh, x -> x.commit(0, 100, 5), 3373);
            Checks.change("commit() with draws", () -> Beacons.of(8, 8), x -> x.commit(7, 255, 999), 304);
        });
        Sentences.test(section, "`member`: the member", () -> {
            Checks.change("commit(0, 0, 0)", RoundCases::eight, x -> x.commit(0, 0, 0), 5);
            Checks.change("commit(7, 0, 0)", RoundCases::eight, x -> x.commit(7, 0, 0), 7005);
            bad("commit(8, 0, 0)", RoundCases::eight, x -> x.commit(8, 0, 0));
            bad("commit(-1, 0, 0)", RoundCases::eight, x -> x.commit(-1, 0, 0));
        });
        Sentences.test(section, "`secret`: the secret, 0 to 255", () -> {
            Checks.change("commit(2, 0, 0)", Beacons::fresh, x -> x.commit(2, 0, 0), 2005);
            Checks.change("commit(2, 255, 0)", Beacons::fresh, x -> x.commit(2, 255, 0), 6373);
            bad("commit(2, -1, 0)", Beacons::fresh, x -> x.commit(2, -1, 0));
            bad("commit(2, 256, 0)", Beacons::fresh, x -> x.commit(2, 256, 0));
        });
        Sentences.test(section, "`salt`: the salt, 0 to 999", () -> {
            Checks.change("commit(1, 7, 0)", Beacons::fresh, x -> x.commit(1, 7, 0), 2524);
            Checks.change("commit(1, 7, 999)", Beacons::fresh, x -> x.commit(1, 7, 999), 8416);
            bad("commit(1, 7, -1)", Beacons::fresh, x -> x.commit(1, 7, -1));
            bad("commit(1, 7, 1000)", Beacons::fresh, x -> x.commit(1, 7, 1000));
        });
        Sentences.test(section, "Returns the commitment;", () -> {
            RevealBeacon x = Beacons.of(8, 3);
            for (int i = 0; i < 8; i++) {
                due("commit() of " + i, x.commit(i, 36 * i, 142 * i), x.commitment(i, 36 * i, 142 * i));
            }
        });
    }

    private static void commitRefused() {
        String section = "Promise 7: commit";
        Sentences.test(section, "BAD if there is no such member or another argument is out of range;", () -> {
            for (int[] b : NO_PAIRS) {
                String call = "commit(" + b[0] + ", " + b[1] + ", " + b[2] + ")";
                bad(call, Beacons::fresh, x -> x.commit(b[0], b[1], b[2]));
                bad(call + " in 3", Beacons::closed, x -> x.commit(b[0], b[1], b[2]));
            }
        });
        Sentences.test(section, "STATE if the phase is not 0,", () -> {
            Checks.change("commit() at the last tick of 0", RoundCases::beforeRevelations, x -> x.commit(2, 1, 1), 2060);
            state("commit() in 1", Beacons::twoInRevelations, x -> x.commit(2, 1, 1));
            state("commit() in 2", Beacons::twoInRecovery, x -> x.commit(2, 1, 1));
            state("commit() in 3", Beacons::failed, x -> x.commit(2, 1, 1));
        });
        Sentences.test(section, "the member is off,", () -> {
            Supplier<RevealBeacon> off = () -> turned(new RevealBeacon(), 2, 0);
            state("commit() when off", off, x -> x.commit(2, 1, 1));
            Checks.change("commit() of another one", off, x -> x.commit(1, 1, 1), 1060);
            Checks.change("commit() when on again", () -> turned(off.get(), 2, 1), x -> x.commit(2, 1, 1), 2060);
        });
        Sentences.test(section, "it has committed itself in this round,", () -> {
            state("the same again", Beacons::bound, x -> x.commit(0, 100, 5));
            state("another secret", Beacons::bound, x -> x.commit(0, 101, 5));
            Checks.change("in the next round", Beacons::secondRound, x -> x.commit(0, 100, 5), 3373);
        });
        Sentences.test(section, "or its deposit is less than the fine for silence.", () -> {
            state("the deposit 13, the fine 14", () -> fined(Beacons.poor(13), 14), x -> x.commit(0, 1, 1));
            Checks.change("the deposit 13, the fine 13", () -> fined(Beacons.poor(13), 13), x -> x.commit(0, 1, 1), 60);
            state("the deposit 0, the fine 1", () -> fined(Beacons.poor(0), 1), x -> x.commit(0, 1, 1));
            Checks.change("the deposit 0, the fine 0", () -> fined(Beacons.poor(0), 0), x -> x.commit(0, 1, 1), 60);
            Checks.change("the fine for falsehood does not matter", () -> Beacons.poor(0), x -> x.commit(0, 1, 1), 60);
            Checks.change("the deposit 20, the fine 20", () -> fined(new RevealBeacon(), 20), x -> x.commit(0, 1, 1), 60);
        });
    }

    private static RevealBeacon beforeRevelations() {
        RevealBeacon x = new RevealBeacon();
        x.tick(3);
        return x;
    }

    private static RevealBeacon turned(RevealBeacon x, int member, int on) {
        x.turn(member, on);
        return x;
    }

    /** With this fine for silence. */
    private static RevealBeacon fined(RevealBeacon x, int fine) {
        x.set(3, fine);
        return x;
    }

    private static void reveal() {
        String section = "Promise 8: reveal";
        Sentences.test(section, "Reveals a secret and a salt for a member.", () -> {
            RevealBeacon x = Beacons.revelations();
            x.reveal(1, 7, 999);
            due("its secret", x.member(1, 3), 7);
            due("how it stands", x.member(1, 5), 2);
            due("the revealed ones", x.told(9), 1);
            due("another one", x.member(0, 3), -9);
            due("its deposit", x.member(1, 0), 20);
            due("its fines", x.member(1, 6), 0);
        });
        Sentences.test(section, "If they have its commitment, the secret is revealed (whether it is the one to which the"
            + " member has committed itself or another one);", () -> {
            RevealBeacon x = Beacons.revelations();
            due("another pair that has it", x.commitment(0, 1, 556), 3373);
            due("reveal() of it", x.reveal(0, 1, 556), 1);
            due("the secret", x.member(0, 3), 1);
            due("the commitment", x.member(0, 2), 3373);
            due("no fine", x.member(0, 6), 0);
            due("honest() with the first one", x.honest(), 100 ^ 7 ^ 255);
            due("outcome() with the other one", x.outcome(), 1 ^ 7 ^ 255);
            x.reveal(1, 7, 999);
            x.reveal(2, 255, 0);
            due("all revealed", x.tick(4), 3);
            due("the output", x.told(11), 1 ^ 7 ^ 255);
        });
        Sentences.test(section, "otherwise the member is fined for falsehood.", () -> {
            RevealBeacon x = Beacons.revelations();
            due("another salt", x.reveal(0, 100, 4), 0);
            due("another secret", x.reveal(0, 101, 5), 0);
            due("the pair of another member", x.reveal(0, 7, 999), 0);
            due("its deposit", x.member(0, 0), 11);
            due("its fines", x.member(0, 6), 3);
            due("the pool", x.told(6), 9);
            due("how it stands", x.member(0, 5), 1);
            due("its secret", x.member(0, 3), -9);
            x.set(4, 20);
            due("a fine above the deposit", x.reveal(0, 0, 0), 0);
            due("its deposit", x.member(0, 0), 0);
            due("the pool", x.told(6), 20);
            due("a fine without a deposit", x.reveal(0, 0, 0), 0);
            due("the pool", x.told(6), 20);
            due("its fines", x.member(0, 6), 5);
            due("the true pair in the end", x.reveal(0, 100, 5), 1);
        });
        Sentences.test(section, "This is a change.", () -> {
            Checks.change("reveal(0, 100, 5)", Beacons::revelations, x -> x.reveal(0, 100, 5), 1);
            Checks.change("reveal(0, 100, 6)", Beacons::revelations, x -> x.reveal(0, 100, 6), 0);
        });
        Sentences.test(section, "`member`: the member", () -> {
            Supplier<RevealBeacon> setup = () -> Beacons.powers(8, 2);
            Checks.change("reveal() of 0", setup, x -> x.reveal(0, 1, 0), 1);
            Checks.change("reveal() of 7", setup, x -> x.reveal(7, 128, 7), 1);
            bad("reveal() of 8", setup, x -> x.reveal(8, 0, 0));
            bad("reveal() of -1", setup, x -> x.reveal(-1, 0, 0));
        });
        Sentences.test(section, "`secret`: the secret, 0 to 255", () -> {
            Checks.change("the secret 0", () -> committedTo(0, 0), x -> x.reveal(0, 0, 0), 1);
            Checks.change("the secret 255", () -> committedTo(255, 0), x -> x.reveal(0, 255, 0), 1);
            bad("the secret -1", () -> committedTo(0, 0), x -> x.reveal(0, -1, 0));
            bad("the secret 256", () -> committedTo(0, 0), x -> x.reveal(0, 256, 0));
        });
        Sentences.test(section, "`salt`: the salt, 0 to 999", () -> {
            Checks.change("the salt 0", () -> committedTo(9, 0), x -> x.reveal(0, 9, 0), 1);
            Checks.change("the salt 999", () -> committedTo(9, 999), x -> x.reveal(0, 9, 999), 1);
            bad("the salt -1", () -> committedTo(9, 0), x -> x.reveal(0, 9, -1));
            bad("the salt 1000", () -> committedTo(9, 0), x -> x.reveal(0, 9, 1000));
        });
        Sentences.test(section, "Returns 1 if it is revealed, 0 if the member is fined;", () -> {
            RevealBeacon x = committedTo(9, 999);
            due("a false salt", x.reveal(0, 9, 998), 0);
            due("a false secret", x.reveal(0, 8, 999), 0);
            x.set(4, 0);
            due("a fine of 0", x.reveal(0, 8, 999), 0);
            due("the true pair", x.reveal(0, 9, 999), 1);
        });
    }

    /** The member 0 is committed to this pair, in the phase 1. */
    private static RevealBeacon committedTo(int secret, int salt) {
        RevealBeacon x = new RevealBeacon();
        x.commit(0, secret, salt);
        x.commit(1, 1, 1);
        x.tick(4);
        return x;
    }

    private static void revealRefused() {
        String section = "Promise 8: reveal";
        Sentences.test(section, "BAD if there is no such member or another argument is out of range;", () -> {
            for (int[] b : NO_PAIRS) {
                String call = "reveal(" + b[0] + ", " + b[1] + ", " + b[2] + ")";
                bad(call, Beacons::revelations, x -> x.reveal(b[0], b[1], b[2]));
                bad(call + " in 0", Beacons::bound, x -> x.reveal(b[0], b[1], b[2]));
            }
        });
        Sentences.test(section, "STATE if the phase is not 1,", () -> {
            state("reveal() in 0", Beacons::bound, x -> x.reveal(0, 100, 5));
            Checks.change("reveal() at the last tick of 1", RoundCases::beforeRecovery, x -> x.reveal(0, 100, 5), 1);
            state("reveal() in 2", Beacons::recovery, x -> x.reveal(1, 7, 999));
            state("reveal() of a recovered one", Beacons::closed, x -> x.reveal(1, 7, 999));
            state("reveal() in 3", Beacons::closed, x -> x.reveal(2, 255, 0));
            state("reveal() in a failed round", Beacons::failed, x -> x.reveal(0, 100, 5));
        });
        Sentences.test(section, "the member is off,", () -> {
            Supplier<RevealBeacon> off = () -> turned(Beacons.revelations(), 2, 0);
            state("reveal() when off", off, x -> x.reveal(2, 255, 0));
            state("a false one when off", off, x -> x.reveal(2, 0, 0));
            Checks.change("reveal() of another one", off, x -> x.reveal(0, 100, 5), 1);
            Checks.change("reveal() when on again", () -> turned(off.get(), 2, 1), x -> x.reveal(2, 255, 0), 1);
        });
        Sentences.test(section, "it has not committed itself in this round,", () -> {
            state("reveal() without a commitment", Beacons::twoInRevelations, x -> x.reveal(2, 0, 0));
            state("reveal() of the last round", RoundCases::secondRevelations, x -> x.reveal(2, 255, 0));
        });
        Sentences.test(section, "or its secret is revealed.", () -> {
            state("reveal() again", Beacons::oneRevealed, x -> x.reveal(0, 100, 5));
            state("a false one after it", Beacons::oneRevealed, x -> x.reveal(0, 0, 0));
            state("another pair after it", Beacons::oneRevealed, x -> x.reveal(0, 1, 556));
            Checks.change("one that was fined", RoundCases::oneFined, x -> x.reveal(1, 7, 999), 1);
        });
    }

    private static RevealBeacon beforeRecovery() {
        RevealBeacon x = Beacons.revelations();
        x.tick(3);
        return x;
    }

    private static RevealBeacon oneFined() {
        RevealBeacon x = Beacons.revelations();
        x.reveal(1, 0, 0);
        return x;
    }

    /** The member 2 was committed in the first round only. */
    private static RevealBeacon secondRevelations() {
        RevealBeacon x = Beacons.secondRound();
        x.commit(0, 1, 1);
        x.commit(1, 2, 2);
        x.tick(4);
        return x;
    }

    private static void publish() {
        String section = "Promise 9: publish";
        Sentences.test(section, "Publishes a share of the secret of another member.", () -> {
            RevealBeacon x = Beacons.recovery();
            x.publish(0, 1, 111);
            due("share(1, 0)", x.share(1, 0), 111);
            due("share(0, 1)", x.share(0, 1), -9);
            due("share(2, 0)", x.share(2, 0), -9);
            due("the shares of 1", x.member(1, 4), 1);
            due("the shares of 0", x.member(0, 4), 0);
        });
        Sentences.test(section, "If it has the published mark, it counts, otherwise the giver is fined for falsehood.",
            () -> {
            for (int share = 0; share <= 256; share++) {
                RevealBeacon x = Beacons.recovery();
                boolean right = share == 62;
                due("publish(2, 1, " + share + ")", x.publish(2, 1, share), right ? 1 : 0);
                due("the shares", x.member(1, 4), right ? 1 : 0);
                due("the giver", x.member(2, 0), right ? 15 : 12);
                due("its fines", x.member(2, 6), right ? 1 : 2);
                due("the owner", x.member(1, 0), 15);
                due("the pool", x.told(6), right ? 10 : 13);
            }
        });
        Sentences.test(section, "This is a change.", () -> {
            Checks.change("publish(0, 1, 111)", Beacons::recovery, x -> x.publish(0, 1, 111), 1);
            Checks.change("publish(0, 1, 110)", Beacons::recovery, x -> x.publish(0, 1, 110), 0);
            Checks.change("publish() that recovers", Beacons::oneShare, x -> x.publish(0, 1, 111), 2);
        });
        Sentences.test(section, "`giver`: the member that publishes the share", () -> {
            Supplier<RevealBeacon> setup = () -> Beacons.powersLost(8, 1);
            Checks.change("the giver 0", setup, x -> x.publish(0, 3, 8), 1);
            Checks.change("the giver 7", setup, x -> x.publish(7, 3, 8), 1);
            bad("the giver 8", setup, x -> x.publish(8, 3, 8));
            bad("the giver -1", setup, x -> x.publish(-1, 3, 8));
        });
        Sentences.test(section, "`owner`: the member whose secret it is", () -> {
            Supplier<RevealBeacon> setup = () -> Beacons.powersLost(8, 1);
            Checks.change("the owner 0", setup, x -> x.publish(3, 0, 1), 1);
            Checks.change("the owner 7", setup, x -> x.publish(3, 7, 128), 1);
            bad("the owner 8", setup, x -> x.publish(3, 8, 128));
            bad("the owner -1", setup, x -> x.publish(3, -1, 128));
        });
        Sentences.test(section, "`share`: the share, 0 to 256", () -> {
            Checks.change("the share 0", () -> shareOf(0), x -> x.publish(0, 1, 0), 1);
            Checks.change("the share 256", () -> shareOf(256), x -> x.publish(0, 1, 256), 1);
            due("the share 0", shareOf(0).publish(0, 1, 256), 0);
            due("the share 256", shareOf(256).publish(0, 1, 0), 0);
            bad("the share -1", () -> shareOf(256), x -> x.publish(0, 1, -1));
            bad("the share 257", () -> shareOf(0), x -> x.publish(0, 1, 257));
        });
        Sentences.test(section, "Returns how many shares of this secret are published then, 0 if the giver is fined;",
            () -> {
            RevealBeacon x = Beacons.powersLost(8, 5);
            for (int giver = 7; giver > 2; giver--) {
                int share = shareByMark(x, 2, giver);
                due("a false share", x.publish(giver, 2, (share + 1) % 257), 0);
                due("the share of " + giver, x.publish(giver, 2, share), 8 - giver);
                due("one of another secret", x.publish(giver, 1, shareByMark(x, 1, giver)), 8 - giver);
            }
            due("recovered", x.member(2, 3), 4);
        });
    }

    /** In the phase 2; the share that the member 0 has of the secret of the member 1 is 0 or 256. */
    private static RevealBeacon shareOf(int share) {
        RevealBeacon x = new RevealBeacon();
        int seed = 1;
        int coefficient = 0;
        do {
            seed++;
            coefficient = (int) ((1103515245L * seed + 12345L) % 2147483648L) / 65536 % 257;
        } while (coefficient < 2 || coefficient > 255);
        x.setSeed(seed);
        x.commit(1, share == 0 ? 257 - coefficient : 256 - coefficient, 0);
        x.commit(0, 0, 0);
        x.tick(8);
        return x;
    }

    private static int shareByMark(RevealBeacon x, int owner, int giver) {
        int mark = x.mark(owner, giver);
        for (int share = 0; share < 257; share++) {
            if ((91 * share * share + 3 * share + giver) % 10007 == mark) {
                return share;
            }
        }
        return -1;
    }

    private static void publishRefused() {
        String section = "Promise 9: publish";
        Sentences.test(section, "BAD if there is no such member,", () -> {
            int[][] out = {{3, 1}, {0, 3}, {-1, 1}, {0, -1}, {8, 1}, {0, 8}, {3, 3}, {MAX, 1}, {MIN, 1}, {0, MAX}, {0, MIN}};
            for (int[] b : out) {
                String call = "publish(" + b[0] + ", " + b[1] + ", 111)";
                bad(call, Beacons::recovery, x -> x.publish(b[0], b[1], 111));
                bad(call + " in 0", Beacons::fresh, x -> x.publish(b[0], b[1], 111));
            }
        });
        Sentences.test(section, "both are the same,", () -> {
            for (int i = 0; i < 3; i++) {
                int member = i;
                bad("publish(" + i + ", " + i + ", 7)", Beacons::recovery, x -> x.publish(member, member, 7));
                bad("publish(" + i + ", " + i + ", 7) in 0", Beacons::fresh, x -> x.publish(member, member, 7));
            }
        });
        Sentences.test(section, "or share is out of range;", () -> {
            int[] out = {-1, 257, MAX, MIN};
            for (int share : out) {
                bad("publish(0, 1, " + share + ")", Beacons::recovery, x -> x.publish(0, 1, share));
                bad("publish(0, 1, " + share + ") in 0", Beacons::fresh, x -> x.publish(0, 1, share));
            }
        });
        Sentences.test(section, "STATE if the phase is not 2,", () -> {
            state("publish() in 0", Beacons::bound, x -> x.publish(0, 1, 111));
            state("publish() in 1", Beacons::oneRevealed, x -> x.publish(0, 1, 111));
            Checks.change("publish() at the last tick of 2", RoundCases::beforeTheEnd, x -> x.publish(0, 1, 111), 1);
            state("publish() in 3", Beacons::closed, x -> x.publish(0, 2, 88));
        });
        Sentences.test(section, "the giver is off,", () -> {
            Supplier<RevealBeacon> off = () -> turned(Beacons.recovery(), 0, 0);
            state("publish() when off", off, x -> x.publish(0, 1, 111));
            state("a false share when off", off, x -> x.publish(0, 1, 110));
            Checks.change("publish() of another one", off, x -> x.publish(2, 1, 62), 1);
            Checks.change("an owner that is off", () -> turned(Beacons.recovery(), 1, 0), x -> x.publish(0, 1, 111), 1);
            Checks.change("on again", () -> turned(off.get(), 0, 1), x -> x.publish(0, 1, 111), 1);
        });
        Sentences.test(section, "one of both has not committed itself in this round,", () -> {
            state("the giver", Beacons::twoInRecovery, x -> x.publish(2, 1, 0));
            state("the owner", Beacons::twoInRecovery, x -> x.publish(1, 2, 0));
            state("the giver of the last round", RoundCases::secondRecovery, x -> x.publish(2, 1, 0));
            state("the owner of the last round", RoundCases::secondRecovery, x -> x.publish(1, 2, 0));
        });
        Sentences.test(section, "the secret of the owner is revealed or recovered,", () -> {
            state("revealed", Beacons::recovery, x -> x.publish(1, 0, 109));
            Supplier<RevealBeacon> four = RoundCases::recoveredOfFour;
            state("recovered", four, x -> x.publish(3, 0, shareByMark(x, 0, 3)));
            state("recovered, by a false share", four, x -> x.publish(3, 0, (shareByMark(x, 0, 3) + 1) % 257));
            Checks.change("one that is recovered gives", four, x -> x.publish(0, 3, shareByMark(x, 3, 0)), 1);
        });
        Sentences.test(section, "or the giver has published its share of it (one that did not count can be tried"
            + " again).", () -> {
            state("again", Beacons::oneShare, x -> x.publish(2, 1, 62));
            state("again, a false one", Beacons::oneShare, x -> x.publish(2, 1, 61));
            Checks.change("another giver", Beacons::oneShare, x -> x.publish(0, 1, 111), 2);
            RevealBeacon x = Beacons.recovery();
            due("a false one", x.publish(2, 1, 61), 0);
            due("a false one again", x.publish(2, 1, 61), 0);
            due("the deposit", x.member(2, 0), 9);
            due("nothing published", x.share(1, 2), -9);
            due("the true one", x.publish(2, 1, 62), 1);
            due("published", x.share(1, 2), 62);
        });
    }

    private static RevealBeacon beforeTheEnd() {
        RevealBeacon x = Beacons.recovery();
        x.tick(3);
        return x;
    }

    private static RevealBeacon secondRecovery() {
        RevealBeacon x = secondRevelations();
        x.tick(4);
        return x;
    }

    /** The secret of the member 0 of four is recovered by the members 1 and 2. */
    private static RevealBeacon recoveredOfFour() {
        RevealBeacon x = Beacons.powersLost(4, 2);
        x.give(1, 0);
        x.give(2, 0);
        return x;
    }

    private static void give() {
        String section = "Promise 10: give";
        Sentences.test(section, "Lets a member publish the true share of the secret of another member, as by publish().",
            () -> {
            RevealBeacon x = Beacons.recovery();
            x.give(0, 2);
            due("share(2, 0)", x.share(2, 0), 88);
            x.give(1, 2);
            due("share(2, 1)", x.share(2, 1), 178);
            due("recovered", x.member(2, 3), 255);
            due("no fine", x.member(0, 6), 0);
            due("the pool", x.told(6), 10);
            x = Beacons.recovery();
            x.publish(0, 2, 88);
            due("after publish() by another one", x.give(1, 2), 2);
        });
        Sentences.test(section, "This is a change.", () -> {
            Checks.change("give(0, 2)", Beacons::recovery, x -> x.give(0, 2), 1);
            Checks.change("give() that recovers", Beacons::oneShare, x -> x.give(0, 1), 2);
        });
        Sentences.test(section, "`giver`: the member that publishes the share", () -> {
            Supplier<RevealBeacon> setup = () -> Beacons.powersLost(8, 3);
            Checks.change("the giver 0", setup, x -> x.give(0, 3), 1);
            Checks.change("the giver 7", setup, x -> x.give(7, 3), 1);
            bad("the giver 8", setup, x -> x.give(8, 3));
            bad("the giver -1", setup, x -> x.give(-1, 3));
        });
        Sentences.test(section, "`owner`: the member whose secret it is", () -> {
            Supplier<RevealBeacon> setup = () -> Beacons.powersLost(8, 3);
            Checks.change("the owner 0", setup, x -> x.give(3, 0), 1);
            Checks.change("the owner 7", setup, x -> x.give(3, 7), 1);
            bad("the owner 8", setup, x -> x.give(3, 8));
            bad("the owner -1", setup, x -> x.give(3, -1));
        });
        Sentences.test(section, "Returns how many shares of this secret are published then;", () -> {
            RevealBeacon x = Beacons.powersLost(8, 7);
            for (int giver = 0; giver < 7; giver++) {
                due("give(" + giver + ", 7)", x.give(giver, 7), giver + 1);
            }
            due("recovered by seven", x.member(7, 3), 128);
        });
    }

    private static void giveRefused() {
        String section = "Promise 10: give";
        Sentences.test(section, "BAD if there is no such member or both are the same;", () -> {
            int[][] out = {{3, 1}, {0, 3}, {-1, 1}, {0, -1}, {0, 0}, {1, 1}, {2, 2}, {8, 1}, {MAX, 1}, {MIN, 1}, {0, MAX},
                {0, MIN}};
            for (int[] b : out) {
                String call = "give(" + b[0] + ", " + b[1] + ")";
                bad(call, Beacons::recovery, x -> x.give(b[0], b[1]));
                bad(call + " in 0", Beacons::fresh, x -> x.give(b[0], b[1]));
            }
        });
        Sentences.test(section, "STATE as for publish().", () -> {
            state("give() in 0", Beacons::bound, x -> x.give(0, 1));
            state("give() in 1", Beacons::oneRevealed, x -> x.give(0, 1));
            Checks.change("give() at the last tick of 2", RoundCases::beforeTheEnd, x -> x.give(0, 1), 1);
            state("give() in 3", Beacons::closed, x -> x.give(0, 2));
            state("give() when off", () -> turned(Beacons.recovery(), 0, 0), x -> x.give(0, 1));
            Checks.change("an owner that is off", () -> turned(Beacons.recovery(), 1, 0), x -> x.give(0, 1), 1);
            state("a giver without a commitment", Beacons::twoInRecovery, x -> x.give(2, 1));
            state("an owner without a commitment", Beacons::twoInRecovery, x -> x.give(1, 2));
            state("a giver of the last round", RoundCases::secondRecovery, x -> x.give(2, 1));
            state("revealed", Beacons::recovery, x -> x.give(1, 0));
            state("recovered", RoundCases::recoveredOfFour, x -> x.give(3, 0));
            state("again", Beacons::oneShare, x -> x.give(2, 1));
            RevealBeacon x = Beacons.recovery();
            x.publish(2, 1, 61);
            due("one that did not count", x.give(2, 1), 1);
        });
    }

    private static void tick() {
        String section = "Promise 11: tick";
        Sentences.test(section, "Does ticks.", () -> {
            for (int n = 1; n <= 60; n++) {
                RevealBeacon many = Beacons.bound();
                RevealBeacon one = Beacons.bound();
                many.tick(n);
                for (int i = 0; i < n; i++) {
                    one.tick(1);
                }
                Checks.same("tick(" + n + ") and as many of one", Checks.look(many), Checks.look(one));
                due("the clock", many.told(2), n);
            }
        });
        Sentences.test(section, "This is one change.", () -> {
            Checks.change("tick(1)", Beacons::bound, x -> x.tick(1), 0);
            Checks.change("tick(3)", Beacons::bound, x -> x.tick(3), 0);
            Checks.change("tick(12)", Beacons::bound, x -> x.tick(12), 3);
            Checks.change("tick(60)", Beacons::oneRevealed, x -> x.tick(60), 3);
        });
        Sentences.test(section, "`n`: how many, 1 to 60", () -> {
            Checks.change("tick(1)", Beacons::fresh, x -> x.tick(1), 0);
            Checks.change("tick(60)", Beacons::fresh, x -> x.tick(60), 3);
            bad("tick(0)", Beacons::fresh, x -> x.tick(0));
            bad("tick(61)", Beacons::fresh, x -> x.tick(61));
        });
        Sentences.test(section, "Returns the phase then;", () -> {
            int[] phases = {0, 0, 0, 1, 1, 1, 1, 2, 2, 2, 2, 3, 3, 3};
            for (int i = 0; i < phases.length; i++) {
                due("tick(" + (i + 1) + ")", Beacons.bound().tick(i + 1), phases[i]);
            }
            due("in a failed round", Beacons.failed().tick(60), 3);
            RevealBeacon x = Beacons.bound();
            x.set(0, 20);
            x.set(1, 20);
            x.set(2, 20);
            due("59 of 60", x.tick(59), 2);
            due("60 of 60", x.tick(1), 3);
            due("the age", x.told(5), 0);
        });
        Sentences.test(section, "BAD if n is out of range.", () -> {
            int[] out = {0, -1, 61, MAX, MIN};
            for (int n : out) {
                bad("tick(" + n + ")", Beacons::oneRevealed, x -> x.tick(n));
                bad("tick(" + n + ") in 3", Beacons::closed, x -> x.tick(n));
            }
        });
    }

    private static void next() {
        String section = "Promise 12: next";
        Sentences.test(section, "Begins the next round, with the phase 0.", () -> {
            RevealBeacon x = Beacons.closed();
            x.turn(2, 0);
            x.tick(2);
            x.next();
            Checks.same("after next()", Checks.look(x), "told 3 2 14 1 0 0 0 662824084 0 0 0 -9 60 2"
                + " settings 4 4 4 5 3 0"
                + " member 0: 30 1 -9 -9 0 0 0 -9/-9 -9/-9 -9/-9 influence -2"
                + " member 1: 15 1 -9 -9 0 0 1 -9/-9 -9/-9 -9/-9 influence -2"
                + " member 2: 15 0 -9 -9 0 0 1 -9/-9 -9/-9 -9/-9 influence -2"
                + " past 99 honest -2 outcome -2 mean 20.0");
            due("its phase 0 has its length", x.tick(3), 0);
            due("commit() in it", x.commit(0, 1, 1), 60);
        });
        Sentences.test(section, "This is a change.", () -> {
            Checks.change("next()", Beacons::closed, x -> x.next(), 1);
            Checks.change("next() after a failed round", Beacons::failed, x -> x.next(), 1);
        });
        Sentences.test(section, "Returns the number of the new round, from 1 on;", () -> {
            RevealBeacon x = new RevealBeacon();
            for (int round = 1; round <= 29; round++) {
                x.tick(4);
                due("next()", x.next(), round);
                due("told(3)", x.told(3), round);
            }
        });
        Sentences.test(section, "STATE if the phase is not 3;", () -> {
            state("next() at first", Beacons::fresh, x -> x.next());
            state("next() in 0", Beacons::bound, x -> x.next());
            state("next() in 1", Beacons::revelations, x -> x.next());
            state("next() in 2", Beacons::recovery, x -> x.next());
            state("next() at the last tick of 2", RoundCases::beforeTheEnd, x -> x.next());
            state("next() again", Beacons::secondRound, x -> x.next());
            state("next() in the 30th round, open", Beacons::lastRoundOpen, x -> x.next());
        });
        Sentences.test(section, "FULL if there are 30 rounds with the present one.", () -> {
            Checks.change("next() to the 30th", () -> Beacons.round(28), x -> x.next(), 29);
            Checks.refused("next() to the 31st", Beacons::lastRound, x -> x.next(), -3);
            RevealBeacon x = Beacons.lastRound();
            x.begin(3, 2);
            x.tick(1);
            due("next() after begin()", x.next(), 1);
        });
    }

    private static void undo() {
        String section = "Promise 13: undo";
        Sentences.test(section, "Undoes a change, as described above.", () -> {
            RevealBeacon x = Beacons.closed();
            for (int i = 7; i >= 0; i--) {
                due("undo()", x.undo(), i);
            }
            RevealBeacon one = new RevealBeacon();
            one.commit(0, 100, 5);
            Checks.same("back to the first commitment", Checks.look(x), Checks.look(one));
            due("commit() once more", x.commit(1, 7, 999), 8416);
            due("the same mark", x.mark(1, 1), 4181);
            x = Beacons.bound();
            x.begin(3, 1);
            x.commit(0, 1, 1);
            x.undo();
            x.undo();
            Checks.same("what a later commitment replaced", Checks.look(x), Checks.look(Beacons.bound()));
        });
        Sentences.test(section, "Returns how many changes can still be undone;", () -> {
            for (int changes = 1; changes <= 10; changes++) {
                RevealBeacon x = new RevealBeacon();
                for (int i = 0; i < changes; i++) {
                    x.turn(0, 0);
                }
                for (int left = Math.min(changes, 8) - 1; left >= 0; left--) {
                    due("undo() after " + changes, x.undo(), left);
                    due("told(14)", x.told(14), left);
                }
                due("undo() once more", x.undo(), -2);
            }
        });
        Sentences.test(section, "STATE if there is none.", () -> {
            state("undo() at first", Beacons::fresh, x -> x.undo());
            state("undo() after a refused call", RoundCases::afterRefused, x -> x.undo());
            state("undo() after keep()", RoundCases::afterKeep, x -> x.undo());
            state("undo() of undo()", RoundCases::afterUndo, x -> x.undo());
        });
    }

    private static RevealBeacon afterRefused() {
        RevealBeacon x = new RevealBeacon();
        due("pay(3, 1)", x.pay(3, 1), -1);
        return x;
    }

    private static RevealBeacon afterKeep() {
        RevealBeacon x = new RevealBeacon();
        due("keep(0)", x.keep(0), 0);
        return x;
    }

    private static RevealBeacon afterUndo() {
        RevealBeacon x = new RevealBeacon();
        due("pay(0, 1)", x.pay(0, 1), 21);
        due("undo()", x.undo(), 0);
        return x;
    }
}
