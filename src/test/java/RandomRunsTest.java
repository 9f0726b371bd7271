import java.util.Random;

/** Random runs of calls, the same on the class and on the model, with a fixed seed. */
public final class RandomRunsTest {
    private static final int RUNS = 3000, CALLS = 512;
    private static final int[] ODD = {Integer.MIN_VALUE, Integer.MAX_VALUE, -1, -2, 8, 9, 30, 256, 257, 1000};

    private final Random random;
    private final int run;
    private final RevealBeacon x = new RevealBeacon();
    private final BeaconModel model = new BeaconModel();
    /** In some runs nothing but commits, revelations, shares and ticks is called often. */
    private final boolean steady;
    private int calls = 0;

    private RandomRunsTest(int run) {
        this.run = run;
        random = new Random(run);
        steady = run % 2 == 0;
    }

    public static void main(String[] args) {
        for (int run = 0; run < RUNS; run++) {
            new RandomRunsTest(run).go();
        }
        Checks.finish("RandomRunsTest");
    }

    private void go() {
        if (random.nextInt(4) > 0) {
            int members = 2 + random.nextInt(7);
            begin(members, 1 + random.nextInt(random.nextBoolean() ? members : 2));
        }
        if (random.nextBoolean()) {
            due("set(5, 1)", x.set(5, 1), model.set(5, 1));
        }
        while (calls < CALLS - 60) {
            if (random.nextInt(steady ? 12 : 5) > 0) {
                act();
            } else {
                disturb();
            }
            ask();
        }
    }

    private void due(String call, long got, long want) {
        calls++;
        Checks.due("run " + run + ", call " + calls + ": " + call, got, want);
    }

    private int below(int n) {
        return random.nextInt(30) == 0 ? ODD[random.nextInt(ODD.length)] : random.nextInt(n);
    }

    private int who() {
        return below(model.told(0));
    }

    private void begin(int members, int threshold) {
        due("begin(" + members + ", " + threshold + ")", x.begin(members, threshold), model.begin(members, threshold));
    }

    /** What fits the phase. */
    private void act() {
        int kind = random.nextInt(10);
        if (kind == 0 || model.told(4) == 3 && kind < 3) {
            int n = random.nextInt(20) == 0 ? below(70) : 1 + random.nextInt(4);
            due("tick(" + n + ")", x.tick(n), model.tick(n));
        } else if (model.told(4) == 0) {
            commit(who(), below(256), below(1000));
        } else if (model.told(4) == 1) {
            reveal(who());
        } else if (model.told(4) == 2) {
            publish(who(), who());
        } else {
            due("next()", x.next(), model.next());
        }
    }

    private void commit(int i, int secret, int salt) {
        String call = "commit(" + i + ", " + secret + ", " + salt + ")";
        due(call, x.commit(i, secret, salt), model.commit(i, secret, salt));
    }

    private void reveal(int i) {
        int secret = below(256);
        int salt = below(1000);
        int kind = random.nextInt(6);
        if (kind > 0 && i >= 0 && i < model.told(0) && model.w.members.get(i).bound) {
            BeaconModel.Member m = model.w.members.get(i);
            int[] pair = kind == 1 ? otherOpening(i, m) : new int[] {m.secret, m.salt};
            secret = pair[0];
            salt = pair[1];
        }
        String call = "reveal(" + i + ", " + secret + ", " + salt + ")";
        due(call, x.reveal(i, secret, salt), model.reveal(i, secret, salt));
    }

    private int[] otherOpening(int i, BeaconModel.Member m) {
        int start = random.nextInt(256);
        for (int k = 0; k < 256; k++) {
            int s = (start + k) % 256;
            for (int v = 0; v < 1000; v++) {
                if (s != m.secret && model.commitment(i, s, v) == m.commitment) {
                    return new int[] {s, v};
                }
            }
        }
        return new int[] {m.secret, m.salt};
    }

    private void publish(int giver, int owner) {
        if (random.nextInt(3) > 0) {
            due("give(" + giver + ", " + owner + ")", x.give(giver, owner), model.give(giver, owner));
            return;
        }
        int share = below(257);
        for (int s = 0; s < 257 && random.nextInt(1000) > 0; s++) {
            if (giver >= 0 && giver < 8 && model.mark(owner, giver) == (91 * s * s + 3 * s + giver) % 10007) {
                share = s;
            }
        }
        String call = "publish(" + giver + ", " + owner + ", " + share + ")";
        due(call, x.publish(giver, owner, share), model.publish(giver, owner, share));
    }

    /** Whatever else changes something, and calls out of their phase. */
    private void disturb() {
        int i = who();
        int n = below(21);
        switch (random.nextInt(steady ? 12 : 16)) {
            case 0: due("set(3, " + n + ")", x.set(3, n), model.set(3, n)); break;
            case 1: due("set(4, " + n + ")", x.set(4, n), model.set(4, n)); break;
            case 2: due("set(5, " + n % 2 + ")", x.set(5, n % 2), model.set(5, n % 2)); break;
            case 3: anySetting(below(7), n); break;
            case 4:
            case 5: due("turn(" + i + ", " + n % 2 + ")", x.turn(i, n % 2), model.turn(i, n % 2)); break;
            case 6: due("turn(" + i + ", 1)", x.turn(i, 1), model.turn(i, 1)); break;
            case 7: pay(i, below(52)); break;
            case 8: seed(random.nextInt()); break;
            case 9: commit(i, below(256), below(1000)); break;
            case 10: reveal(i); break;
            case 11: publish(i, who()); break;
            case 12: due("undo()", x.undo(), model.undo()); break;
            case 13: due("keep(" + n % 3 + ")", x.keep(n % 3), model.keep(n % 3)); break;
            case 14: due("back(" + n % 3 + ")", x.back(n % 3), model.back(n % 3)); break;
            default: many(); break;
        }
    }

    private void anySetting(int setting, int value) {
        due("set(" + setting + ", " + value + ")", x.set(setting, value), model.set(setting, value));
    }

    private void pay(int i, int amount) {
        due("pay(" + i + ", " + amount + ")", x.pay(i, amount), model.pay(i, amount));
    }

    private void seed(int seed) {
        due("setSeed(" + seed + ")", x.setSeed(seed), model.setSeed(seed));
    }

    private void many() {
        int kind = random.nextInt(4);
        for (int k = random.nextInt(10); k >= 0; k--) {
            if (kind == 0) {
                due("undo()", x.undo(), model.undo());
            } else if (kind == 1) {
                pay(who(), 50);
            } else if (kind == 2) {
                due("next()", x.next(), model.next());
            } else {
                begin(below(9), below(9));
                return;
            }
        }
    }

    private void ask() {
        int i = who();
        int j = who();
        int what = below(16);
        switch (random.nextInt(14)) {
            case 0: due("told(" + what + ")", x.told(what), model.told(what)); break;
            case 1: due("setting(" + what + ")", x.setting(what), model.setting(what)); break;
            case 2:
            case 3: due("member(" + i + ", " + what % 7 + ")", x.member(i, what % 7), model.member(i, what % 7)); break;
            case 4: due("mark(" + i + ", " + j + ")", x.mark(i, j), model.mark(i, j)); break;
            case 5: due("share(" + i + ", " + j + ")", x.share(i, j), model.share(i, j)); break;
            case 6: due("past(" + what + ")", x.past(what), model.past(what)); break;
            case 7: due("honest()", x.honest(), model.honest()); break;
            case 8:
            case 9: due("outcome()", x.outcome(), model.outcome()); break;
            case 10:
            case 11: due("influence(" + i + ")", x.influence(i), model.influence(i)); break;
            case 12: due("mean()", Float.floatToIntBits(x.mean()), Float.floatToIntBits(model.mean())); break;
            default: askFormulas(i); break;
        }
    }

    private void askFormulas(int i) {
        int secret = below(256);
        int salt = below(1000);
        String pair = "(" + i + ", " + secret + ", " + salt + ")";
        due("commitment" + pair, x.commitment(i, secret, salt), model.commitment(i, secret, salt));
        if (random.nextInt(8) == 0) {
            due("openings(" + i + ", " + secret + ")", x.openings(i, secret), model.openings(i, secret));
            due("openings(" + i + ", -1)", x.openings(i, -1), model.openings(i, -1));
        }
        if (random.nextInt(8) == 0) {
            for (int what = 0; what < 15; what++) {
                due("told(" + what + ")", x.told(what), model.told(what));
            }
        }
    }
}
