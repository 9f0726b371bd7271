import java.util.Random;

/**
 * Promises 22 to 24 without a model: what honest(), outcome() and influence() tell is compared with
 * the output that comes of it when the calls that they speak of are made, on beacons with the same past.
 */
public final class PlayedOutTest {
    private static final int CASES = 4000;

    private final Random random;
    private final RevealBeacon x = new RevealBeacon();
    private final int[] secrets = new int[8];
    private final int[] salts = new int[8];
    private final int members;

    /** The same number makes the same beacon, in the phase 1 or 2, or in 3 if too few are committed. */
    private PlayedOutTest(int number) {
        random = new Random(number);
        members = 2 + random.nextInt(7);
        x.begin(members, 1 + random.nextInt(members));
        x.set(5, random.nextInt(2));
        x.set(1, 1 + random.nextInt(20));
        commitSome();
        revealSome();
        if (random.nextBoolean()) {
            endOf(1);
            giveSome();
        }
        for (int i = 0; i < members; i++) {
            x.turn(i, random.nextInt(4) > 0 ? 1 : 0);
        }
    }

    public static void main(String[] args) {
        Checks.name("Promises 22 to 24");
        int[] influences = new int[3];
        int[] outcomes = new int[2];
        for (int number = 0; number < CASES; number++) {
            RevealBeacon x = new PlayedOutTest(number).x;
            int outcome = x.outcome();
            Checks.due("case " + number + ": outcome()", outcome, new PlayedOutTest(number).playOut());
            outcomes[outcome == RevealBeacon.NONE ? 1 : 0]++;
            checkHonest(number, x);
            for (int i = 0; i < x.told(0); i++) {
                influences[checkInfluence(number, x, i)]++;
            }
        }
        checkEnough("outputs", outcomes[0]);
        checkEnough("outputs that are NONE", outcomes[1]);
        checkEnough("influences of 1", influences[1]);
        checkEnough("influences of 2", influences[2]);
        Checks.finish("PlayedOutTest");
    }

    private static void checkEnough(String what, int count) {
        Checks.due("many cases have " + what, count > CASES / 10 ? 1 : 0, 1);
    }

    /** From the phase 1 on, where nobody has revealed anything, all members are on and reveal their secrets. */
    private static void checkHonest(int number, RevealBeacon x) {
        PlayedOutTest other = new PlayedOutTest(number);
        int want = RevealBeacon.STATE;
        if (other.x.told(8) >= 2) {
            want = 0;
            for (int i = 0; i < other.members; i++) {
                want ^= other.x.member(i, 5) > 0 ? other.secrets[i] : 0;
            }
        }
        Checks.due("case " + number + ": honest()", x.honest(), want);
        if (other.x.told(4) == 1 && other.x.told(9) == 0) {
            for (int i = 0; i < other.members; i++) {
                other.x.turn(i, 1);
            }
            other.revealAllBut(-1);
            Checks.due("case " + number + ": honest(), played out", want, other.playOut());
        }
    }

    /** Returns the influence, 0 if the call is refused. */
    private static int checkInfluence(int number, RevealBeacon x, int member) {
        if (x.told(4) != 1 || x.member(member, 1) == 0 || x.member(member, 5) != 1) {
            Checks.due("case " + number + ": influence(" + member + ")", x.influence(member), RevealBeacon.STATE);
            return 0;
        }
        int silent = new PlayedOutTest(number).playInfluence(member, false);
        int loud = new PlayedOutTest(number).playInfluence(member, true);
        int want = silent == loud ? 1 : 2;
        Checks.due("case " + number + ": influence(" + member + ")", x.influence(member), want);
        return want;
    }

    /** The output if all others and perhaps this one reveal their secrets; it is off when shares are given. */
    private int playInfluence(int member, boolean reveals) {
        revealAllBut(member);
        if (reveals) {
            Checks.due("reveal()", x.reveal(member, secrets[member], salts[member]), 1);
        }
        x.turn(member, 0);
        return playOut();
    }

    /** Members that can't reveal anything are refused. */
    private void revealAllBut(int member) {
        for (int i = 0; i < members; i++) {
            if (i != member) {
                x.reveal(i, secrets[i], salts[i]);
            }
        }
    }

    /** Whoever can't give a share is refused. */
    private int playOut() {
        endOf(1);
        for (int owner = 0; owner < members; owner++) {
            for (int giver = 0; giver < members; giver++) {
                x.give(giver, owner);
            }
        }
        endOf(2);
        Checks.due("the phase", x.told(4), 3);
        return x.told(11);
    }

    private void endOf(int phase) {
        if (x.told(4) == phase) {
            x.tick(x.setting(phase) - x.told(5));
        }
    }

    private void commitSome() {
        for (int i = 0; i < members; i++) {
            secrets[i] = random.nextInt(3) == 0 ? 0 : random.nextInt(256);
            salts[i] = random.nextInt(1000);
            if (random.nextInt(5) > 0) {
                x.commit(i, secrets[i], salts[i]);
            }
        }
        endOf(0);
    }

    private void revealSome() {
        int part = random.nextInt(3);
        for (int i = 0; i < members; i++) {
            if (random.nextInt(4) < part) {
                x.reveal(i, secrets[i], salts[i]);
            }
        }
        x.tick(Math.max(1, random.nextInt(x.setting(1))));
    }

    private void giveSome() {
        for (int k = random.nextInt(2 * members); k > 0; k--) {
            x.give(random.nextInt(members), random.nextInt(members));
        }
    }
}
