import java.math.BigInteger;
import java.util.ArrayDeque;
import java.util.ArrayList;
import java.util.Deque;
import java.util.List;

/**
 * The document once more, written apart from the class and in another way: plain objects, deep
 * copies, brute force and big integers. RandomRunsTest compares both.
 */
final class BeaconModel {
    static final int BAD = -1, STATE = -2, FULL = -3, NONE = -9;

    static final class Member {
        int deposit = 20;
        boolean on = true;
        int fines;
        boolean bound;
        int secret;
        int salt;
        int commitment;
        Integer revealed;
        Integer recovered;
        List<Integer> polynomial = new ArrayList<>();
        Integer[] published = new Integer[8];

        Member copy() {
            Member m = new Member();
            m.deposit = deposit;
            m.on = on;
            m.fines = fines;
            m.bound = bound;
            m.secret = secret;
            m.salt = salt;
            m.commitment = commitment;
            m.revealed = revealed;
            m.recovered = recovered;
            m.polynomial = new ArrayList<>(polynomial);
            m.published = published.clone();
            return m;
        }

        void newRound() {
            bound = false;
            revealed = null;
            recovered = null;
            polynomial.clear();
            published = new Integer[8];
        }

        boolean open() {
            return bound && revealed == null && recovered == null;
        }

        int shares() {
            int n = 0;
            for (Integer p : published) {
                if (p != null) {
                    n++;
                }
            }
            return n;
        }
    }

    static final class World {
        int threshold;
        int clock;
        int phase;
        int age;
        int pool;
        long seed = 1;
        Integer output;
        int[] settings = {4, 4, 4, 5, 3, 0};
        List<Member> members = new ArrayList<>();
        List<Integer> past = new ArrayList<>();

        World copy() {
            World w = new World();
            w.threshold = threshold;
            w.clock = clock;
            w.phase = phase;
            w.age = age;
            w.pool = pool;
            w.seed = seed;
            w.output = output;
            w.settings = settings.clone();
            for (Member m : members) {
                w.members.add(m.copy());
            }
            w.past.addAll(past);
            return w;
        }
    }

    World w = new World();
    private final Deque<World> history = new ArrayDeque<>();
    private final World[] images = new World[2];

    BeaconModel() {
        anew(3, 2);
    }

    private void anew(int members, int threshold) {
        World old = w;
        w = new World();
        w.seed = old.seed;
        w.settings = old.settings;
        w.threshold = threshold;
        for (int i = 0; i < members; i++) {
            w.members.add(new Member());
        }
    }

    private void change() {
        history.addLast(w.copy());
        if (history.size() > 8) {
            history.removeFirst();
        }
    }

    private boolean no(int i) {
        return i < 0 || i >= w.members.size();
    }

    private static boolean out(int value, int low, int high) {
        return value < low || value > high;
    }

    private static int mod(long value, long n) {
        return BigInteger.valueOf(value).mod(BigInteger.valueOf(n)).intValue();
    }

    int begin(int members, int threshold) {
        if (out(members, 2, 8) || out(threshold, 1, members)) {
            return BAD;
        }
        change();
        int rounds = w.past.size() + 1;
        anew(members, threshold);
        return rounds;
    }

    int set(int setting, int value) {
        int[][] ranges = {{1, 20}, {1, 20}, {1, 20}, {0, 20}, {0, 20}, {0, 1}};
        if (out(setting, 0, 5) || out(value, ranges[setting][0], ranges[setting][1])) {
            return BAD;
        }
        change();
        int old = w.settings[setting];
        w.settings[setting] = value;
        return old;
    }

    int setSeed(int seed) {
        if (seed < 0) {
            return BAD;
        }
        change();
        int old = (int) w.seed;
        w.seed = seed;
        return old;
    }

    int turn(int i, int on) {
        if (no(i) || out(on, 0, 1)) {
            return BAD;
        }
        change();
        boolean was = w.members.get(i).on;
        w.members.get(i).on = on == 1;
        return was ? 1 : 0;
    }

    int pay(int i, int amount) {
        if (no(i) || out(amount, 1, 50)) {
            return BAD;
        }
        if (w.members.get(i).deposit > 999 - amount) {
            return FULL;
        }
        change();
        return w.members.get(i).deposit += amount;
    }

    int commitment(int i, int s, int v) {
        if (no(i) || out(s, 0, 255) || out(v, 0, 999)) {
            return BAD;
        }
        return formula(i, s, v);
    }

    private static int formula(int i, long s, long v) {
        return mod(31 * s * s + 17 * v + 7 * s * v + 1000L * i + 5, 10007);
    }

    private int draw() {
        BigInteger next = BigInteger.valueOf(w.seed).multiply(BigInteger.valueOf(1103515245))
            .add(BigInteger.valueOf(12345)).mod(BigInteger.ONE.shiftLeft(31));
        w.seed = next.longValueExact();
        return next.shiftRight(16).mod(BigInteger.valueOf(257)).intValue();
    }

    int commit(int i, int secret, int salt) {
        if (no(i) || out(secret, 0, 255) || out(salt, 0, 999)) {
            return BAD;
        }
        Member m = w.members.get(i);
        if (w.phase != 0 || !m.on || m.bound || m.deposit < w.settings[3]) {
            return STATE;
        }
        change();
        m.bound = true;
        m.secret = secret;
        m.salt = salt;
        m.commitment = formula(i, secret, salt);
        m.polynomial.add(secret);
        while (m.polynomial.size() < w.threshold) {
            m.polynomial.add(draw());
        }
        return m.commitment;
    }

    private static int value(List<Integer> polynomial, int place) {
        BigInteger sum = BigInteger.ZERO;
        for (int p = 0; p < polynomial.size(); p++) {
            sum = sum.add(BigInteger.valueOf(place).pow(p).multiply(BigInteger.valueOf(polynomial.get(p))));
        }
        return sum.mod(BigInteger.valueOf(257)).intValue();
    }

    private void fine(Member m, int amount) {
        for (int i = 0; i < amount && m.deposit > 0; i++) {
            m.deposit--;
            w.pool++;
        }
        m.fines++;
    }

    int reveal(int i, int secret, int salt) {
        if (no(i) || out(secret, 0, 255) || out(salt, 0, 999)) {
            return BAD;
        }
        Member m = w.members.get(i);
        if (w.phase != 1 || !m.on || !m.bound || m.revealed != null) {
            return STATE;
        }
        change();
        if (formula(i, secret, salt) == m.commitment) {
            m.revealed = secret;
            return 1;
        }
        fine(m, w.settings[4]);
        return 0;
    }

    private static int markOf(long share, int giver) {
        return mod(91 * share * share + 3 * share + giver, 10007);
    }

    private boolean cannotPublish(int giver, int owner) {
        Member g = w.members.get(giver);
        Member o = w.members.get(owner);
        return w.phase != 2 || !g.on || !g.bound || !o.bound || o.revealed != null || o.recovered != null
            || o.published[giver] != null;
    }

    int publish(int giver, int owner, int share) {
        if (no(giver) || no(owner) || giver == owner || out(share, 0, 256)) {
            return BAD;
        }
        if (cannotPublish(giver, owner)) {
            return STATE;
        }
        change();
        Member o = w.members.get(owner);
        if (markOf(share, giver) != markOf(value(o.polynomial, giver + 1), giver)) {
            fine(w.members.get(giver), w.settings[4]);
            return 0;
        }
        addShare(o, giver, share);
        return o.shares();
    }

    int give(int giver, int owner) {
        if (no(giver) || no(owner) || giver == owner) {
            return BAD;
        }
        if (cannotPublish(giver, owner)) {
            return STATE;
        }
        change();
        Member o = w.members.get(owner);
        addShare(o, giver, value(o.polynomial, giver + 1));
        return o.shares();
    }

    private void addShare(Member o, int giver, int share) {
        o.published[giver] = share;
        if (o.shares() == w.threshold) {
            o.recovered = valueAtZero(o.published);
        }
    }

    /** By Newton's divided differences. */
    private static int valueAtZero(Integer[] published) {
        BigInteger p = BigInteger.valueOf(257);
        List<BigInteger> x = new ArrayList<>();
        List<BigInteger> y = new ArrayList<>();
        for (int j = 0; j < published.length; j++) {
            if (published[j] != null) {
                x.add(BigInteger.valueOf(j + 1));
                y.add(BigInteger.valueOf(published[j]));
            }
        }
        int n = x.size();
        for (int level = 1; level < n; level++) {
            for (int k = n - 1; k >= level; k--) {
                BigInteger distance = x.get(k).subtract(x.get(k - level));
                y.set(k, y.get(k).subtract(y.get(k - 1)).multiply(distance.modInverse(p)).mod(p));
            }
        }
        BigInteger result = BigInteger.ZERO;
        for (int k = n - 1; k >= 0; k--) {
            result = result.multiply(x.get(k).negate()).add(y.get(k)).mod(p);
        }
        return result.intValue();
    }

    int tick(int n) {
        if (out(n, 1, 60)) {
            return BAD;
        }
        change();
        for (int i = 0; i < n; i++) {
            w.clock++;
            w.age++;
            if (w.phase == 0 && w.age >= w.settings[0]) {
                enter(bound() < 2 ? 3 : 1);
            } else if (w.phase == 1 && w.age >= w.settings[1]) {
                endRevelations();
            } else if (w.phase == 2 && w.age >= w.settings[2]) {
                conclude();
            }
        }
        return w.phase;
    }

    private void enter(int phase) {
        w.phase = phase;
        w.age = 0;
    }

    private void endRevelations() {
        boolean all = true;
        for (Member m : w.members) {
            if (m.bound && m.revealed == null) {
                fine(m, w.settings[3]);
                all = false;
            }
        }
        if (all) {
            conclude();
        } else {
            enter(2);
        }
    }

    private void conclude() {
        enter(3);
        int n = 0;
        for (Member m : w.members) {
            n += m.revealed != null ? 1 : 0;
        }
        if (n > 0) {
            int each = Math.floorDiv(w.pool, n);
            w.pool = w.pool - n * each;
            for (Member m : w.members) {
                m.deposit += m.revealed != null ? each : 0;
            }
        }
        w.output = output(w);
    }

    private static Integer output(World w) {
        Integer result = null;
        for (Member m : w.members) {
            Integer known = m.revealed != null ? m.revealed : m.recovered;
            if (m.bound && known == null && w.settings[5] == 1) {
                return null;
            }
            if (m.bound && known != null) {
                result = (result == null ? 0 : result) ^ known;
            }
        }
        return result;
    }

    private int bound() {
        int n = 0;
        for (Member m : w.members) {
            n += m.bound ? 1 : 0;
        }
        return n;
    }

    int next() {
        if (w.phase != 3) {
            return STATE;
        }
        if (w.past.size() + 1 == 30) {
            return FULL;
        }
        change();
        w.past.add(w.output);
        w.output = null;
        for (Member m : w.members) {
            m.newRound();
        }
        enter(0);
        return w.past.size();
    }

    int undo() {
        if (history.isEmpty()) {
            return STATE;
        }
        w = history.removeLast();
        return history.size();
    }

    int told(int what) {
        int[] n = new int[15];
        n[0] = w.members.size();
        n[1] = w.threshold;
        n[2] = w.clock;
        n[3] = w.past.size();
        n[4] = w.phase;
        n[5] = w.age;
        n[6] = w.pool;
        n[7] = (int) w.seed;
        n[8] = bound();
        n[11] = orNone(w.output);
        n[12] = w.pool;
        n[14] = history.size();
        for (Member m : w.members) {
            n[9] += m.revealed != null ? 1 : 0;
            n[10] += m.recovered != null ? 1 : 0;
            n[12] += m.deposit;
            n[13] += m.on ? 1 : 0;
        }
        return out(what, 0, 14) ? BAD : n[what];
    }

    private static int orNone(Integer value) {
        return value == null ? NONE : value;
    }

    int setting(int i) {
        return out(i, 0, 5) ? BAD : w.settings[i];
    }

    int member(int i, int what) {
        if (no(i) || out(what, 0, 6)) {
            return BAD;
        }
        Member m = w.members.get(i);
        int stands = !m.bound ? 0 : m.revealed != null ? 2 : m.recovered != null ? 3 : 1;
        int[] n = {m.deposit, m.on ? 1 : 0, m.bound ? m.commitment : NONE,
            orNone(m.revealed != null ? m.revealed : m.recovered), m.shares(), stands, m.fines};
        return n[what];
    }

    int mark(int owner, int giver) {
        if (no(owner) || no(giver)) {
            return BAD;
        }
        Member o = w.members.get(owner);
        return o.bound ? markOf(value(o.polynomial, giver + 1), giver) : NONE;
    }

    int share(int owner, int giver) {
        return no(owner) || no(giver) ? BAD : orNone(w.members.get(owner).published[giver]);
    }

    int openings(int i, int secret) {
        if (no(i) || out(secret, -1, 255)) {
            return BAD;
        }
        Member m = w.members.get(i);
        if (!m.bound) {
            return NONE;
        }
        int count = 0;
        for (int s = 0; s < 256; s++) {
            for (int v = 0; v < 1000; v++) {
                int c = (31 * s * s + 17 * v + 7 * s * v + 1000 * i + 5) % 10007;
                count += c == m.commitment && (secret == -1 || secret == s) ? 1 : 0;
            }
        }
        return count;
    }

    int past(int round) {
        return out(round, 0, w.past.size() - 1) ? BAD : orNone(w.past.get(round));
    }

    int honest() {
        if (w.phase == 0 || bound() < 2) {
            return STATE;
        }
        int result = 0;
        for (Member m : w.members) {
            result ^= m.bound ? m.secret : 0;
        }
        return result;
    }

    int outcome() {
        if (w.phase == 0) {
            return STATE;
        }
        return w.phase == 3 ? orNone(w.output) : after(w.copy(), -1);
    }

    /** What the output of this world is when all members but one have published what they can. */
    private static int after(World world, int silent) {
        for (Member o : world.members) {
            if (!o.open()) {
                continue;
            }
            int shares = o.shares();
            for (int j = 0; j < world.members.size(); j++) {
                Member g = world.members.get(j);
                if (g != o && j != silent && g.on && g.bound && o.published[j] == null) {
                    shares++;
                }
            }
            if (shares >= world.threshold) {
                o.recovered = o.secret;
            }
        }
        return orNone(output(world));
    }

    int influence(int i) {
        if (no(i)) {
            return BAD;
        }
        Member m = w.members.get(i);
        if (w.phase != 1 || !m.on || !m.open()) {
            return STATE;
        }
        World silent = w.copy();
        for (int j = 0; j < silent.members.size(); j++) {
            Member other = silent.members.get(j);
            if (j != i && other.on && other.open()) {
                other.revealed = other.secret;
            }
        }
        World loud = silent.copy();
        loud.members.get(i).revealed = m.secret;
        return after(silent, i) == after(loud, i) ? 1 : 2;
    }

    float mean() {
        int sum = 0;
        for (Member m : w.members) {
            sum += m.deposit;
        }
        return (float) sum / (float) w.members.size();
    }

    int keep(int i) {
        if (out(i, 0, 1)) {
            return BAD;
        }
        images[i] = w.copy();
        return w.past.size();
    }

    int back(int i) {
        if (out(i, 0, 1)) {
            return BAD;
        }
        if (images[i] == null) {
            return STATE;
        }
        change();
        w = images[i].copy();
        return w.past.size();
    }
}
