/**
 * A simulator of a beacon of random numbers by commitment and revelation: members commit
 * themselves to secrets, reveal them later, and lose deposits if they do not; secrets that are
 * not revealed are recovered from shares.
 *
 * <p>The public methods look at the arguments and at the state, record what can be undone, and
 * leave the work to {@link State}. No call makes objects: all of them are made with the beacon.
 */
public final class RevealBeacon {
    public static final int BAD = -1, STATE = -2, FULL = -3, NONE = -9;

    private static final int FEWEST_MEMBERS = 2, MOST_MEMBERS = 8, MOST_ROUNDS = 30;
    private static final int FIRST_MEMBERS = 3, FIRST_THRESHOLD = 2, FIRST_SEED = 1;
    private static final int FIRST_DEPOSIT = 20, MOST_DEPOSIT = 999, MOST_PAID = 50;
    private static final int MOST_TICKS = 60, MOST_UNDONE = 8;
    private static final int SECRETS = 256, SALTS = 1000;

    private static final int SETTINGS = 6, LENGTHS = 3;
    private static final int SILENCE = 3, FALSEHOOD = 4, STRICTNESS = 5;

    private static final int COMMITMENTS = 0, REVELATIONS = 1, RECOVERY = 2, CLOSED = 3;
    private static final int FEWEST_COMMITTED = 2;

    private static final int IDLE = 0, COMMITTED = 1, REVEALED = 2, RECOVERED = 3;

    private static final int NOBODY = -1, ALL_SECRETS = -1;

    /** The modulus of commitments and marks, and that of shares; both are primes. */
    private static final int MARK_MODULUS = 10007, SHARE_MODULUS = 257;

    private final State now;
    private final State trial;
    private final History history;
    private final Image imageZero;
    private final Image imageOne;

    public RevealBeacon() {
        now = new State();
        trial = new State();
        history = new History();
        imageZero = new Image();
        imageOne = new Image();
        now.restart(FIRST_MEMBERS, FIRST_THRESHOLD);
    }

    // ---- changes

    public int begin(int members, int threshold) {
        if (members < FEWEST_MEMBERS || members > MOST_MEMBERS) {
            return BAD;
        }
        if (threshold < 1 || threshold > members) {
            return BAD;
        }
        int rounds = now.round + 1;
        history.record(now);
        now.restart(members, threshold);
        return rounds;
    }

    public int set(int setting, int value) {
        if (!isSetting(setting) || value < lowestValue(setting) || value > highestValue(setting)) {
            return BAD;
        }
        history.record(now);
        int previous = now.settings.at(setting);
        now.settings.put(setting, value);
        return previous;
    }

    public int setSeed(int seed) {
        if (seed < 0) {
            return BAD;
        }
        history.record(now);
        int previous = now.seed;
        now.seed = seed;
        return previous;
    }

    public int turn(int member, int on) {
        if (!now.isMember(member) || on < 0 || on > 1) {
            return BAD;
        }
        history.record(now);
        int previous = now.switches.at(member);
        now.switches.put(member, on);
        return previous;
    }

    public int pay(int member, int amount) {
        if (!now.isMember(member) || amount < 1 || amount > MOST_PAID) {
            return BAD;
        }
        if (now.deposits.at(member) + amount > MOST_DEPOSIT) {
            return FULL;
        }
        history.record(now);
        now.deposits.add(member, amount);
        return now.deposits.at(member);
    }

    public int commit(int member, int secret, int salt) {
        if (!now.isMember(member) || !isSecret(secret) || !isSalt(salt)) {
            return BAD;
        }
        if (!now.mayCommit(member)) {
            return STATE;
        }
        history.record(now);
        now.bind(member, secret, salt);
        return now.commitments.at(member);
    }

    public int reveal(int member, int secret, int salt) {
        if (!now.isMember(member) || !isSecret(secret) || !isSalt(salt)) {
            return BAD;
        }
        if (!now.mayReveal(member)) {
            return STATE;
        }
        history.record(now);
        return now.open(member, secret, salt);
    }

    public int publish(int giver, int owner, int share) {
        if (!now.isPair(giver, owner) || share < 0 || share >= SHARE_MODULUS) {
            return BAD;
        }
        if (!now.mayPublish(giver, owner)) {
            return STATE;
        }
        history.record(now);
        return now.show(giver, owner, share);
    }

    public int give(int giver, int owner) {
        if (!now.isPair(giver, owner)) {
            return BAD;
        }
        if (!now.mayPublish(giver, owner)) {
            return STATE;
        }
        history.record(now);
        return now.show(giver, owner, now.trueShare(owner, giver));
    }

    public int tick(int n) {
        if (n < 1 || n > MOST_TICKS) {
            return BAD;
        }
        history.record(now);
        for (int i = 0; i < n; i++) {
            now.passTime();
        }
        return now.phase;
    }

    public int next() {
        if (now.phase != CLOSED) {
            return STATE;
        }
        if (now.round + 1 >= MOST_ROUNDS) {
            return FULL;
        }
        history.record(now);
        now.round++;
        now.startRound();
        return now.round;
    }

    public int undo() {
        if (history.count < 1) {
            return STATE;
        }
        history.restore(now);
        return history.count;
    }

    // ---- what is told

    public int told(int what) {
        switch (what) {
            case 0: return now.members;
            case 1: return now.threshold;
            case 2: return now.clock;
            case 3: return now.round;
            case 4: return now.phase;
            case 5: return now.age;
            case 6: return now.pool;
            case 7: return now.seed;
            case 8: return now.countBound();
            case 9: return now.countStanding(REVEALED);
            case 10: return now.countStanding(RECOVERED);
            case 11: return now.outputs.at(now.round);
            case 12: return now.sumDeposits() + now.pool;
            case 13: return now.countOn();
            case 14: return history.count;
            default: return BAD;
        }
    }

    public int setting(int setting) {
        return isSetting(setting) ? now.settings.at(setting) : BAD;
    }

    public int member(int member, int what) {
        if (!now.isMember(member)) {
            return BAD;
        }
        switch (what) {
            case 0: return now.deposits.at(member);
            case 1: return now.switches.at(member);
            case 2: return now.isBound(member) ? now.commitments.at(member) : NONE;
            case 3: return now.isKnown(member) ? now.knowns.at(member) : NONE;
            case 4: return now.countShown(member);
            case 5: return now.standings.at(member);
            case 6: return now.fines.at(member);
            default: return BAD;
        }
    }

    public int mark(int owner, int giver) {
        if (!now.isMember(owner) || !now.isMember(giver)) {
            return BAD;
        }
        return now.isBound(owner) ? computeMark(giver, now.trueShare(owner, giver)) : NONE;
    }

    public int share(int owner, int giver) {
        if (!now.isMember(owner) || !now.isMember(giver)) {
            return BAD;
        }
        return now.shown.at(cell(owner, giver));
    }

    public int commitment(int member, int secret, int salt) {
        if (!now.isMember(member) || !isSecret(secret) || !isSalt(salt)) {
            return BAD;
        }
        return computeCommitment(member, secret, salt);
    }

    public int openings(int member, int secret) {
        if (!now.isMember(member) || !(secret == ALL_SECRETS || isSecret(secret))) {
            return BAD;
        }
        if (!now.isBound(member)) {
            return NONE;
        }
        int commitment = now.commitments.at(member);
        if (secret != ALL_SECRETS) {
            return countSalts(member, secret, commitment);
        }
        int count = 0;
        for (int s = 0; s < SECRETS; s++) {
            count += countSalts(member, s, commitment);
        }
        return count;
    }

    public int past(int round) {
        return round >= 0 && round < now.round ? now.outputs.at(round) : BAD;
    }

    // ---- what could be

    public int honest() {
        if (now.phase == COMMITMENTS || now.countBound() < FEWEST_COMMITTED) {
            return STATE;
        }
        return now.combineBound();
    }

    public int outcome() {
        if (now.phase == COMMITMENTS) {
            return STATE;
        }
        if (now.phase == CLOSED) {
            return now.outputs.at(now.round);
        }
        trial.copyFrom(now);
        trial.showAll(NOBODY);
        return trial.combineKnown();
    }

    public int influence(int member) {
        if (!now.isMember(member)) {
            return BAD;
        }
        if (!now.mayReveal(member)) {
            return STATE;
        }
        return tryOut(member, true) == tryOut(member, false) ? 1 : 2;
    }

    public float mean() {
        int members = now.members;
        return members < 1 ? 0 : (float) now.sumDeposits() / (float) members;
    }

    // ---- images

    public int keep(int i) {
        Image image = imageAt(i);
        if (image == null) {
            return BAD;
        }
        image.content.copyFrom(now);
        image.filled = true;
        return now.round;
    }

    public int back(int i) {
        Image image = imageAt(i);
        if (image == null) {
            return BAD;
        }
        if (!image.filled) {
            return STATE;
        }
        history.record(now);
        now.copyFrom(image.content);
        return now.round;
    }

    // ---- what the methods above share

    private Image imageAt(int i) {
        if (i == 0) {
            return imageZero;
        }
        return i == 1 ? imageOne : null;
    }

    /** The output if this member reveals its secret or not, and all others that can, do. */
    private int tryOut(int member, boolean reveals) {
        trial.copyFrom(now);
        trial.uncoverAllBut(member);
        if (reveals) {
            trial.uncover(member);
        }
        trial.showAll(member);
        return trial.combineKnown();
    }

    private static boolean isSetting(int setting) {
        return setting >= 0 && setting < SETTINGS;
    }

    private static int lowestValue(int setting) {
        return setting < LENGTHS ? 1 : 0;
    }

    private static int highestValue(int setting) {
        return setting == STRICTNESS ? 1 : 20;
    }

    private static boolean isSecret(int secret) {
        return secret >= 0 && secret < SECRETS;
    }

    private static boolean isSalt(int salt) {
        return salt >= 0 && salt < SALTS;
    }

    private static int computeCommitment(int member, int secret, int salt) {
        return (31 * secret * secret + 17 * salt + 7 * secret * salt + 1000 * member + 5) % MARK_MODULUS;
    }

    private static int computeMark(int giver, int share) {
        return (91 * share * share + 3 * share + giver) % MARK_MODULUS;
    }

    /**
     * Counts the salts that give this commitment. Each salt adds the slope to the commitment of
     * the salt 0, so it is quicker to look for multiples of the slope than to try all salts.
     */
    private static int countSalts(int member, int secret, int commitment) {
        int slope = 17 + 7 * secret;
        if (slope < 1) {
            return 0;
        }
        int rise = Math.floorMod(commitment - computeCommitment(member, secret, 0), MARK_MODULUS);
        int count = 0;
        for (int added = rise; added <= slope * (SALTS - 1); added += MARK_MODULUS) {
            if (added % slope == 0) {
                count++;
            }
        }
        return count;
    }

    private static int cell(int owner, int giver) {
        return owner * MOST_MEMBERS + giver;
    }

    private static int raise(int base, int exponent) {
        int power = 1;
        for (int i = 0; i < exponent; i++) {
            power = power * base % SHARE_MODULUS;
        }
        return power;
    }

    /** The inverse modulo the prime 257 is the power 255; each step goes from the power e to 2e + 1. */
    private static int invert(int number) {
        int power = 1;
        for (int i = 0; i < 8; i++) {
            power = power * power * number % SHARE_MODULUS;
        }
        return power;
    }

    private static boolean isAmong(int givers, int giver) {
        return (givers >> giver & 1) == 1;
    }

    /** The value at 0 of the polynomial that is 1 at this giver's place and 0 at the other givers'. */
    private static int weigh(int givers, int giver) {
        int above = 1;
        int below = 1;
        for (int i = 0; i < MOST_MEMBERS; i++) {
            if (i != giver && isAmong(givers, i)) {
                above = above * (i + 1) % SHARE_MODULUS;
                below = Math.floorMod(below * (i - giver), SHARE_MODULUS);
            }
        }
        return above * invert(below) % SHARE_MODULUS;
    }

    /** A row of numbers that looks at each index first, so that none can make the machine throw. */
    private static final class Row {
        private final int[] cells;

        Row(int length) {
            cells = new int[length < 0 ? 0 : length];
        }

        int at(int i) {
            return i >= 0 && i < cells.length ? cells[i] : 0;
        }

        void put(int i, int value) {
            if (i >= 0 && i < cells.length) {
                cells[i] = value;
            }
        }

        void add(int i, int amount) {
            put(i, at(i) + amount);
        }

        void fill(int value) {
            for (int i = 0; i < cells.length; i++) {
                cells[i] = value;
            }
        }

        void copyFrom(Row other) {
            System.arraycopy(other.cells, 0, cells, 0, Math.min(cells.length, other.cells.length));
        }
    }

    /** Everything that a change can change and an image keeps. */
    private static final class State {
        int members, threshold, clock, round, phase, age, pool, seed;
        final Row settings = new Row(SETTINGS);
        /** The outputs of all rounds; NONE for the present one until it is closed. */
        final Row outputs = new Row(MOST_ROUNDS);
        final Row deposits = new Row(MOST_MEMBERS);
        final Row switches = new Row(MOST_MEMBERS);
        final Row fines = new Row(MOST_MEMBERS);
        final Row standings = new Row(MOST_MEMBERS);
        final Row commitments = new Row(MOST_MEMBERS);
        /** The secrets to which members have committed themselves. */
        final Row secrets = new Row(MOST_MEMBERS);
        /** The secrets as revealed or recovered, which need not be those committed to. */
        final Row knowns = new Row(MOST_MEMBERS);
        final Row shares = new Row(MOST_MEMBERS * MOST_MEMBERS);
        /** The published shares, NONE for the others. */
        final Row shown = new Row(MOST_MEMBERS * MOST_MEMBERS);

        State() {
            seed = FIRST_SEED;
            settings.put(COMMITMENTS, 4);
            settings.put(REVELATIONS, 4);
            settings.put(RECOVERY, 4);
            settings.put(SILENCE, 5);
            settings.put(FALSEHOOD, 3);
            settings.put(STRICTNESS, 0);
        }

        void copyFrom(State other) {
            members = other.members;
            threshold = other.threshold;
            clock = other.clock;
            round = other.round;
            phase = other.phase;
            age = other.age;
            pool = other.pool;
            seed = other.seed;
            settings.copyFrom(other.settings);
            outputs.copyFrom(other.outputs);
            deposits.copyFrom(other.deposits);
            switches.copyFrom(other.switches);
            fines.copyFrom(other.fines);
            standings.copyFrom(other.standings);
            commitments.copyFrom(other.commitments);
            secrets.copyFrom(other.secrets);
            knowns.copyFrom(other.knowns);
            shares.copyFrom(other.shares);
            shown.copyFrom(other.shown);
        }

        void restart(int newMembers, int newThreshold) {
            members = newMembers;
            threshold = newThreshold;
            clock = 0;
            round = 0;
            pool = 0;
            deposits.fill(FIRST_DEPOSIT);
            switches.fill(1);
            fines.fill(0);
            startRound();
        }

        void startRound() {
            enter(COMMITMENTS);
            outputs.put(round, NONE);
            standings.fill(IDLE);
            shown.fill(NONE);
        }

        void enter(int newPhase) {
            phase = newPhase;
            age = 0;
        }

        // ---- members

        boolean isMember(int member) {
            return member >= 0 && member < members;
        }

        boolean isPair(int giver, int owner) {
            return isMember(giver) && isMember(owner) && giver != owner;
        }

        boolean isOn(int member) {
            return switches.at(member) == 1;
        }

        boolean isBound(int member) {
            return standings.at(member) != IDLE;
        }

        boolean isKnown(int member) {
            return standings.at(member) == REVEALED || standings.at(member) == RECOVERED;
        }

        boolean isHidden(int member) {
            return standings.at(member) == COMMITTED;
        }

        int countOn() {
            int count = 0;
            for (int i = 0; i < members; i++) {
                count += isOn(i) ? 1 : 0;
            }
            return count;
        }

        int countBound() {
            return countStanding(COMMITTED) + countStanding(REVEALED) + countStanding(RECOVERED);
        }

        int countStanding(int standing) {
            int count = 0;
            for (int i = 0; i < members; i++) {
                count += standings.at(i) == standing ? 1 : 0;
            }
            return count;
        }

        int sumDeposits() {
            int sum = 0;
            for (int i = 0; i < members; i++) {
                sum += deposits.at(i);
            }
            return sum;
        }

        void fine(int member, int amount) {
            int taken = Math.min(amount, deposits.at(member));
            deposits.add(member, -taken);
            pool += taken;
            fines.add(member, 1);
        }

        // ---- commitments and revelations

        boolean mayCommit(int member) {
            return phase == COMMITMENTS && isOn(member) && !isBound(member)
                && deposits.at(member) >= settings.at(SILENCE);
        }

        void bind(int member, int secret, int salt) {
            commitments.put(member, computeCommitment(member, secret, salt));
            secrets.put(member, secret);
            standings.put(member, COMMITTED);
            dealShares(member, secret);
        }

        /** The polynomial itself is not kept, as only its values are asked for later. */
        void dealShares(int owner, int secret) {
            for (int j = 0; j < members; j++) {
                shares.put(cell(owner, j), secret);
            }
            for (int power = 1; power < threshold; power++) {
                int coefficient = drawCoefficient();
                for (int j = 0; j < members; j++) {
                    int sum = trueShare(owner, j) + coefficient * raise(j + 1, power);
                    shares.put(cell(owner, j), sum % SHARE_MODULUS);
                }
            }
        }

        int drawCoefficient() {
            seed = (int) ((1103515245L * seed + 12345L) % 2147483648L);
            return seed / 65536 % SHARE_MODULUS;
        }

        int trueShare(int owner, int giver) {
            return shares.at(cell(owner, giver));
        }

        boolean mayReveal(int member) {
            return phase == REVELATIONS && isOn(member) && isHidden(member);
        }

        /** Returns 1 if the secret is revealed, 0 if the member is fined. */
        int open(int member, int secret, int salt) {
            if (computeCommitment(member, secret, salt) != commitments.at(member)) {
                fine(member, settings.at(FALSEHOOD));
                return 0;
            }
            learn(member, secret, REVEALED);
            return 1;
        }

        void learn(int member, int secret, int standing) {
            knowns.put(member, secret);
            standings.put(member, standing);
        }

        void uncover(int member) {
            learn(member, secrets.at(member), REVEALED);
        }

        void uncoverAllBut(int member) {
            for (int i = 0; i < members; i++) {
                if (i != member && isOn(i) && isHidden(i)) {
                    uncover(i);
                }
            }
        }

        // ---- recovery

        boolean mayPublish(int giver, int owner) {
            return phase == RECOVERY && canShow(giver, owner);
        }

        boolean canShow(int giver, int owner) {
            return giver != owner && isOn(giver) && isBound(giver) && isHidden(owner)
                && !isShown(owner, giver);
        }

        boolean isShown(int owner, int giver) {
            return shown.at(cell(owner, giver)) != NONE;
        }

        /** The members that have published their shares of a secret, a bit each. */
        int findGivers(int owner) {
            int givers = 0;
            for (int i = 0; i < members; i++) {
                givers |= isShown(owner, i) ? 1 << i : 0;
            }
            return givers;
        }

        int countShown(int owner) {
            return Integer.bitCount(findGivers(owner));
        }

        /** Returns how many shares are published then, 0 if the giver is fined. */
        int show(int giver, int owner, int share) {
            if (computeMark(giver, share) != computeMark(giver, trueShare(owner, giver))) {
                fine(giver, settings.at(FALSEHOOD));
                return 0;
            }
            shown.put(cell(owner, giver), share);
            int givers = findGivers(owner);
            int count = Integer.bitCount(givers);
            if (count >= threshold) {
                learn(owner, interpolate(owner, givers), RECOVERED);
            }
            return count;
        }

        /** The value at 0 of the polynomial through the shares that these givers have published. */
        int interpolate(int owner, int givers) {
            int value = 0;
            for (int i = 0; i < members; i++) {
                if (isAmong(givers, i)) {
                    value += shown.at(cell(owner, i)) * weigh(givers, i) % SHARE_MODULUS;
                }
            }
            return value % SHARE_MODULUS;
        }

        /** Lets all members but the silent one publish what they can, whatever the phase is. */
        void showAll(int silent) {
            for (int owner = 0; owner < members; owner++) {
                for (int giver = 0; giver < members; giver++) {
                    if (giver != silent && canShow(giver, owner)) {
                        show(giver, owner, trueShare(owner, giver));
                    }
                }
            }
        }

        // ---- time and output

        void passTime() {
            clock++;
            age++;
            if (phase != CLOSED && age >= settings.at(phase)) {
                endPhase();
            }
        }

        void endPhase() {
            switch (phase) {
                case COMMITMENTS:
                    enter(countBound() < FEWEST_COMMITTED ? CLOSED : REVELATIONS);
                    break;
                case REVELATIONS:
                    fineSilent();
                    if (countStanding(COMMITTED) > 0) {
                        enter(RECOVERY);
                    } else {
                        close();
                    }
                    break;
                default:
                    close();
                    break;
            }
        }

        void fineSilent() {
            for (int i = 0; i < members; i++) {
                if (isHidden(i)) {
                    fine(i, settings.at(SILENCE));
                }
            }
        }

        void close() {
            enter(CLOSED);
            payOut();
            outputs.put(round, combineKnown());
        }

        void payOut() {
            int revealed = countStanding(REVEALED);
            if (revealed < 1) {
                return;
            }
            int part = pool / revealed;
            for (int i = 0; i < members; i++) {
                if (standings.at(i) == REVEALED) {
                    deposits.add(i, part);
                    pool -= part;
                }
            }
        }

        /** The output from what is revealed or recovered by now. */
        int combineKnown() {
            int known = countStanding(REVEALED) + countStanding(RECOVERED);
            boolean strict = settings.at(STRICTNESS) == 1;
            if (known == 0 || strict && countStanding(COMMITTED) > 0) {
                return NONE;
            }
            int output = 0;
            for (int i = 0; i < members; i++) {
                output ^= isKnown(i) ? knowns.at(i) : 0;
            }
            return output;
        }

        /** The output from the secrets to which the members have committed themselves. */
        int combineBound() {
            int output = 0;
            for (int i = 0; i < members; i++) {
                output ^= isBound(i) ? secrets.at(i) : 0;
            }
            return output;
        }
    }

    /** The states before the latest changes, the oldest of them at the place first. */
    private static final class History {
        private final State[] states = new State[MOST_UNDONE];
        private int first;
        int count;

        History() {
            for (int i = 0; i < states.length; i++) {
                states[i] = new State();
            }
        }

        void record(State before) {
            State place = placeAt(count);
            if (place != null) {
                place.copyFrom(before);
            }
            if (count < MOST_UNDONE) {
                count++;
            } else {
                first = (first + 1) % MOST_UNDONE;
            }
        }

        void restore(State target) {
            if (count < 1) {
                return;
            }
            count--;
            State place = placeAt(count);
            if (place != null) {
                target.copyFrom(place);
            }
        }

        private State placeAt(int i) {
            int place = (first + i) % MOST_UNDONE;
            return place >= 0 && place < states.length ? states[place] : null;
        }
    }

    /** A state that was kept, if one was. */
    private static final class Image {
        final State content = new State();
        boolean filled;
    }
}
