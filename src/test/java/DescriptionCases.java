import java.util.function.Supplier;

/** What the document says of it, and its conventions, members, rounds and changes. */
final class DescriptionCases {
    /** The pairs that have the commitment of the member 7 to the secret 128 with the salt 7. */
    private static final int OPENINGS = 18;

    private DescriptionCases() {
    }

    static void run() {
        whatItIs();
        description();
        conventions();
        refusedCallsChangeNothing();
        members();
        settings();
        rounds();
        endsOfPhases();
        changes();
        history();
    }

    private static void due(String call, long got, long want) {
        Checks.due(call, got, want);
    }

    private static void whatItIs() {
        String section = "What it is";
        Sentences.test(section, "A simulator of a beacon of random numbers by commitment and revelation: members commit"
            + " themselves to secrets, reveal them later, and lose deposits if they do not; secrets that are not"
            + " revealed are recovered from shares.", () -> {
            RevealBeacon x = Beacons.recovery();
            due("the deposit of one that has revealed", x.member(0, 0), 20);
            due("the deposit of one that has not", x.member(1, 0), 15);
            x.give(0, 1);
            x.give(2, 1);
            due("its secret", x.member(1, 3), 7);
        });
        Sentences.test(section, "An object is used for at most 512 calls after it has been made; what later calls"
            + " answer is free.", () -> {
            callsOf512("turn()", new RevealBeacon(), 0, 0);
            callsOf512("tick()", new RevealBeacon(), 0, 1);
            callsOf512("begin()", new RevealBeacon(), 0, 2);
            callsOf512("keep() and back()", new RevealBeacon(), 0, 3);
            callsOf512("influence()", Beacons.powers(8, 7), 10, 4);
            callsOf512("openings()", Beacons.powers(8, 7), 10, 5);
            thirtyRoundsAndMore();
        });
    }

    /** 512 calls, of which the setup has made some; the last ones are 8 of undo() and one too many. */
    private static void callsOf512(String what, RevealBeacon x, int made, int kind) {
        for (int i = made + 1; i <= 503; i++) {
            String call = what + ", call " + i;
            switch (kind) {
                case 0: due(call, x.turn(1, i % 2), i == 1 ? 1 : (i - 1) % 2); break;
                case 1: due(call, i < 503 ? x.tick(60) : x.told(2), i < 503 ? 3 : 60 * 502); break;
                case 2: due(call, x.begin(2 + i % 7, 2), 1); break;
                case 3: due(call, i % 2 == 0 ? x.back(1) : x.keep(1), 0); break;
                case 4: due(call, x.influence(7), 1); break;
                default: due(call, x.openings(7, -1), OPENINGS); break;
            }
        }
        for (int i = 7; i >= 0; i--) {
            due(what + ", undo()", x.undo(), i);
        }
        due(what + ", the call 512", x.undo(), RevealBeacon.STATE);
    }

    /** Thirty rounds of two members that reveal, then begin() and thirty more: 509 calls. */
    private static void thirtyRoundsAndMore() {
        RevealBeacon x = new RevealBeacon();
        x.begin(2, 2);
        for (int part = 0; part < 2; part++) {
            for (int round = 0; round < 30; round++) {
                due("commit()", x.commit(0, round, 1), x.commitment(0, round, 1));
                x.commit(1, 255, 1);
                x.tick(4);
                x.reveal(0, round, 1);
                x.reveal(1, 255, 1);
                due("the phase", x.tick(4), 3);
                due("the next round", x.next(), round < 29 ? round + 1 : RevealBeacon.FULL);
            }
            due("the last output", x.told(11), 255 ^ 29);
            due("a past one", x.past(28), 255 ^ 28);
            due("begin()", x.begin(2, 2), 30);
        }
    }

    private static void description() {
        Sentences.test("Description", "A round has four phases. The class computes commitments and shares by told"
            + " formulas, checks what is revealed and published, fines and pays members, recovers secrets by"
            + " interpolation, tells which outputs are still possible and what the last members could bring about, and"
            + " keeps the results of past rounds. Changes can be undone, and states can be kept.", () -> {
            RevealBeacon x = Beacons.powers(4, 3);
            x.keep(0);
            due("outcome()", x.outcome(), 15);
            due("influence(3)", x.influence(3), 1);
            due("a false secret", x.reveal(0, 2, 0), 0);
            Beacons.revealPower(x, 0);
            Beacons.revealPower(x, 1);
            due("recovery", x.tick(4), 2);
            due("give(0, 2)", x.give(0, 2), 1);
            due("give(1, 2)", x.give(1, 2), 2);
            due("give(3, 2)", x.give(3, 2), 3);
            due("recovered", x.member(2, 3), 4);
            due("closed", x.tick(4), 3);
            due("the output", x.told(11), 1 ^ 2 ^ 4);
            due("the fined one that is paid", x.member(0, 0), 20 - 3 + 6);
            due("the pool of 13 by 2", x.told(6), 1);
            due("next()", x.next(), 1);
            due("past(0)", x.past(0), 7);
            due("undo()", x.undo(), 7);
            due("back(0)", x.back(0), 0);
            due("the phase of the image", x.told(4), 1);
        });
    }

    private static void conventions() {
        String section = "CONVENTIONS";
        Sentences.test(section, "The error codes are BAD (-1), an argument is out of its range or names something that"
            + " does not exist; STATE (-2), the call is not possible now, as the method says; FULL (-3), a maximum"
            + " would be exceeded.", () -> {
            due("BAD", RevealBeacon.BAD, -1);
            due("STATE", RevealBeacon.STATE, -2);
            due("FULL", RevealBeacon.FULL, -3);
            Checks.refused("an argument out of its range", Beacons::fresh, x -> x.tick(61), -1);
            Checks.refused("a member that does not exist", Beacons::fresh, x -> x.turn(3, 1), -1);
            Checks.refused("not now", Beacons::fresh, x -> x.next(), -2);
            Checks.refused("a maximum of deposits", Beacons::rich, x -> x.pay(0, 30), -3);
            Checks.refused("a maximum of rounds", Beacons::lastRound, x -> x.next(), -3);
        });
        Sentences.test(section, "If several of them apply to one call, the first one in this list is returned.", () -> {
            int bad = RevealBeacon.BAD;
            Checks.refused("commit() of nobody in 1", Beacons::revelations, x -> x.commit(3, 0, 0), bad);
            Checks.refused("commit() of 256 again", Beacons::bound, x -> x.commit(0, 256, 0), bad);
            Checks.refused("commit() with 1000 when off", DescriptionCases::offAtFirst, x -> x.commit(0, 0, 1000), bad);
            Checks.refused("reveal() of nobody in 0", Beacons::fresh, x -> x.reveal(3, 0, 0), bad);
            Checks.refused("reveal() of -1 again", Beacons::oneRevealed, x -> x.reveal(0, -1, 5), bad);
            Checks.refused("publish() of 257 in 0", Beacons::fresh, x -> x.publish(0, 1, 257), bad);
            Checks.refused("publish() to itself in 0", Beacons::fresh, x -> x.publish(1, 1, 0), bad);
            Checks.refused("publish() of 257 again", Beacons::oneShare, x -> x.publish(2, 1, 257), bad);
            Checks.refused("give() to itself in 0", Beacons::fresh, x -> x.give(1, 1), bad);
            Checks.refused("influence() of nobody in 0", Beacons::fresh, x -> x.influence(3), bad);
            Checks.refused("back() to no image", Beacons::fresh, x -> x.back(2), bad);
            Checks.refused("pay() of too much to a rich one", Beacons::rich, x -> x.pay(0, 51), bad);
            Checks.refused("pay() to nobody", Beacons::rich, x -> x.pay(3, 50), bad);
            Checks.refused("next() in the 30th round, open", Beacons::lastRoundOpen, x -> x.next(), -2);
        });
        Sentences.test(section, "NONE (-9) means that there is no such value; it is returned only if no error code"
            + " applies.", () -> {
            due("NONE", RevealBeacon.NONE, -9);
            Checks.query("no commitment", Beacons::fresh, x -> x.member(0, 2), -9);
            Checks.refused("no commitment of nobody", Beacons::fresh, x -> x.member(3, 2), -1);
            Checks.refused("mark() for nobody", Beacons::fresh, x -> x.mark(0, 3), -1);
            Checks.refused("share() of nobody", Beacons::fresh, x -> x.share(0, 3), -1);
            Checks.refused("openings() of 256", Beacons::fresh, x -> x.openings(0, 256), -1);
            Checks.query("no output", Beacons::failed, x -> x.outcome(), -9);
            Checks.refused("honest() of one", Beacons::failed, x -> x.honest(), -2);
            Checks.refused("the output of the present round", Beacons::failed, x -> x.past(0), -1);
        });
    }

    private static RevealBeacon offAtFirst() {
        RevealBeacon x = new RevealBeacon();
        x.turn(0, 0);
        return x;
    }

    /** Two images, eight changes, phase 2: one refused call of each kind leaves all of it. */
    private static void refusedCallsChangeNothing() {
        Sentences.test("CONVENTIONS", "A call that returns one of them changes nothing.", () -> {
            RevealBeacon x = new RevealBeacon();
            x.keep(0);
            x.pay(2, 50);
            x.keep(1);
            x.commit(0, 100, 5);
            x.commit(1, 7, 999);
            x.tick(4);
            x.reveal(0, 100, 5);
            x.tick(4);
            for (int i = 0; i < 18; i++) {
                x.pay(0, 50);
            }
            x.give(0, 1);
            String before = Checks.look(x);
            int[] refused = {x.begin(9, 2), x.set(0, 21), x.setSeed(-1), x.turn(0, 2), x.pay(0, 51), x.commit(2, 256, 0),
                x.commit(2, 0, 0), x.reveal(1, 0, 1000), x.reveal(1, 7, 999), x.publish(0, 1, 257), x.publish(0, 1, 0),
                x.give(1, 1), x.give(0, 1), x.tick(61), x.next(), x.keep(2), x.back(2)};
            int[] codes = {-1, -1, -1, -1, -1, -1, -2, -1, -2, -1, -2, -1, -2, -1, -2, -1, -1};
            for (int i = 0; i < codes.length; i++) {
                due("the refused call " + i, refused[i], codes[i]);
            }
            Checks.same("after refused calls", Checks.look(x), before);
            due("what can be undone", x.told(14), 8);
            due("undo() of give()", x.undo(), 7);
            due("the share", x.share(1, 0), -9);
            due("undo() of pay()", x.undo(), 6);
            due("the deposit", x.member(0, 0), 20 + 17 * 50);
            due("the image 0", x.back(0), 0);
            due("its deposit", x.member(2, 0), 20);
            due("the image 1", x.back(1), 0);
            due("its deposit", x.member(2, 0), 70);
        });
        Sentences.test("CONVENTIONS", "A call that returns one of them changes nothing.", () -> {
            RevealBeacon x = new RevealBeacon();
            x.keep(1);
            for (int i = 0; i < 19; i++) {
                x.pay(0, 50);
            }
            due("FULL", x.pay(0, 30), -3);
            due("nothing kept", x.back(0), -2);
            due("the deposit", x.member(0, 0), 970);
            for (int i = 7; i >= 0; i--) {
                due("undo()", x.undo(), i);
                due("the deposit", x.member(0, 0), 570 + 50 * i);
            }
            due("undo() too often", x.undo(), -2);
            due("the deposit", x.member(0, 0), 570);
            due("the other image", x.back(1), 0);
            due("its deposit", x.member(0, 0), 20);
        });
    }

    private static void members() {
        String section = "MEMBERS";
        Sentences.test(section, "There are M members, 0 to M - 1, with M from 2 to 8 (3 at first), and a threshold T from"
            + " 1 to M (2 at first).", () -> {
            RevealBeacon first = new RevealBeacon();
            due("M at first", first.told(0), 3);
            due("T at first", first.told(1), 2);
            for (int m = 2; m <= 8; m++) {
                for (int t = 1; t <= m; t++) {
                    RevealBeacon x = Beacons.of(m, t);
                    due("M", x.told(0), m);
                    due("T", x.told(1), t);
                    due("the member -1", x.member(-1, 0), -1);
                    due("the member 0", x.member(0, 0), 20);
                    due("the member M - 1", x.member(m - 1, 0), 20);
                    due("the member M", x.member(m, 0), -1);
                    due("T of 0", x.begin(m, 0), -1);
                    due("T of M + 1", x.begin(m, m + 1), -1);
                }
            }
            due("M of 1", first.begin(1, 1), -1);
            due("M of 9", first.begin(9, 1), -1);
        });
        Sentences.test(section, "Each member has a deposit, 20 at first, and is on or off (on at first).", () -> {
            for (int m = 2; m <= 8; m++) {
                RevealBeacon x = Beacons.of(m, 1);
                for (int i = 0; i < m; i++) {
                    due("the deposit", x.member(i, 0), 20);
                    due("it is on", x.member(i, 1), 1);
                    due("turn() off", x.turn(i, 0), 1);
                    due("it is off", x.member(i, 1), 0);
                    due("members that are on", x.told(13), m - 1 - i);
                }
            }
        });
        Sentences.test(section, "A member whose deposit is less than the fine for silence cannot commit itself.", () -> {
            int[][] cases = {{20, 20}, {19, 20}, {19, 19}, {18, 19}, {5, 5}, {4, 5}, {1, 1}, {0, 1}, {0, 0}, {20, 0}};
            for (int[] c : cases) {
                RevealBeacon x = Beacons.poor(c[0]);
                x.set(3, c[1]);
                int want = c[0] < c[1] ? RevealBeacon.STATE : 60;
                due("commit() with " + c[0] + " and the fine " + c[1], x.commit(0, 1, 1), want);
                due("commit() of one with 20", x.commit(2, 1, 1), 2060);
            }
            RevealBeacon x = deposits13To20();
            x.set(3, 17);
            for (int i = 0; i < 8; i++) {
                due("commit() with " + (20 - i) + " and the fine 17", x.commit(i, 0, 0), i > 3 ? -2 : 1000 * i + 5);
            }
        });
        Sentences.test(section, "There is a pool, 0 at first.", () -> {
            due("the pool", new RevealBeacon().told(6), 0);
            due("the pool after begin()", Beacons.of(8, 8).told(6), 0);
        });
    }

    /** In the phase 0 of the second round; the member i of eight has 20 - i. */
    private static RevealBeacon deposits13To20() {
        RevealBeacon x = Beacons.powers(8, 2);
        x.set(3, 0);
        x.set(4, 1);
        for (int i = 0; i < 8; i++) {
            for (int k = 0; k < i; k++) {
                due("a false secret", x.reveal(i, 0, 0), 0);
            }
        }
        x.tick(8);
        x.next();
        return x;
    }

    private static void settings() {
        String section = "MEMBERS";
        Sentences.test(section, "The settings are (in parentheses: range; first value): 0 the length of the phase of"
            + " commitments (1 to 20; 4),", () -> {
            checkRange(0, 1, 20, 4);
            checkLength(0, Beacons::bound);
        });
        Sentences.test(section, "1 of revelations (1 to 20; 4),", () -> {
            checkRange(1, 1, 20, 4);
            checkLength(1, Beacons::revelations);
        });
        Sentences.test(section, "2 of recovery (1 to 20; 4),", () -> {
            checkRange(2, 1, 20, 4);
            checkLength(2, Beacons::recovery);
        });
        Sentences.test(section, "3 the fine for silence (0 to 20; 5),", () -> {
            checkRange(3, 0, 20, 5);
            for (int fine = 0; fine <= 20; fine++) {
                RevealBeacon x = Beacons.revelations();
                x.set(3, fine);
                x.tick(4);
                due("the deposit", x.member(1, 0), 20 - fine);
                due("the pool", x.told(6), 3 * fine);
            }
        });
        Sentences.test(section, "4 the fine for falsehood (0 to 20; 3),", () -> {
            checkRange(4, 0, 20, 3);
            for (int fine = 0; fine <= 20; fine++) {
                RevealBeacon x = Beacons.revelations();
                x.set(4, fine);
                x.reveal(1, 7, 998);
                due("the deposit", x.member(1, 0), 20 - fine);
                due("the pool", x.told(6), fine);
            }
        });
        Sentences.test(section, "5 the strictness (0 or 1; 0).", () -> {
            checkRange(5, 0, 1, 0);
            due("strictness 0", outputOfOneRevealed(0), 100);
            due("strictness 1", outputOfOneRevealed(1), -9);
        });
    }

    private static void checkRange(int setting, int low, int high, int first) {
        due("setting(" + setting + ") at first", new RevealBeacon().setting(setting), first);
        for (int value = low; value <= high; value++) {
            RevealBeacon x = new RevealBeacon();
            due("set(" + setting + ", " + value + ")", x.set(setting, value), first);
            due("setting(" + setting + ")", x.setting(setting), value);
        }
        int[] out = {low - 1, high + 1, Integer.MIN_VALUE, Integer.MAX_VALUE};
        for (int value : out) {
            Checks.refused("set(" + setting + ", " + value + ")", Beacons::fresh, x -> x.set(setting, value), -1);
        }
    }

    /** The phase lasts as long as this setting says, to its last tick and not longer. */
    private static void checkLength(int phase, Supplier<RevealBeacon> setup) {
        for (int length = 1; length <= 20; length++) {
            RevealBeacon x = setup.get();
            x.set(phase, length);
            for (int i = 1; i < length; i++) {
                due("tick " + i + " of " + length, x.tick(1), phase);
            }
            due("the age at the last tick", x.told(5), length - 1);
            due("tick " + length + " of " + length, x.tick(1), phase + 1);
            due("the age then", x.told(5), 0);
        }
    }

    private static int outputOfOneRevealed(int strictness) {
        RevealBeacon x = Beacons.recovery();
        x.set(5, strictness);
        x.tick(4);
        return x.told(11);
    }

    private static void rounds() {
        String section = "ROUNDS";
        Sentences.test(section, "The clock is 0 at first.", () -> due("the clock", new RevealBeacon().told(2), 0));
        Sentences.test(section, "The first round begins at the clock 0, with the phase 0.", () -> {
            RevealBeacon x = new RevealBeacon();
            due("the clock", x.told(2), 0);
            due("the round", x.told(3), 0);
            due("the phase", x.told(4), 0);
            due("the age", x.told(5), 0);
        });
        Sentences.test(section, "The phases are 0 commitments, 1 revelations, 2 recovery, 3 closed.", () -> {
            RevealBeacon x = new RevealBeacon();
            checkWhatIsPossible(x, 0);
            x = Beacons.revelations();
            x.reveal(0, 100, 5);
            checkWhatIsPossible(x, 1);
            x.tick(4);
            checkWhatIsPossible(x, 2);
            x.tick(4);
            checkWhatIsPossible(x, 3);
        });
        Sentences.test(section, "The age is the number of ticks since the phase began.", () -> {
            RevealBeacon x = Beacons.revelations();
            int[] ages = {1, 2, 3, 0, 1, 2, 3, 0, 1, 2, 3, 4, 5};
            for (int age : ages) {
                x.tick(1);
                due("the age", x.told(5), age);
            }
        });
        Sentences.test(section, "A tick increases the clock and the age by 1;", () -> {
            RevealBeacon x = Beacons.bound();
            for (int i = 1; i <= 30; i++) {
                x.tick(1);
                due("the clock", x.told(2), i);
                due("the age", x.told(5), i < 12 ? i % 4 : i - 12);
            }
        });
        Sentences.test(section, "if the age is at least the length of the phase then, the phase ends, and the next one"
            + " begins with the age 0;", () -> {
            RevealBeacon x = Beacons.bound();
            x.set(0, 20);
            due("tick(19), the tick before the last", x.tick(19), 0);
            x.set(0, 3);
            due("no tick, no end", x.told(4), 0);
            due("the age is above the length", x.tick(1), 1);
            due("the age", x.told(5), 0);
            due("the tick before the last", x.tick(3), 1);
            x.set(1, 4);
            due("the last tick", x.tick(1), 2);
            due("the age", x.told(5), 0);
            x.set(2, 20);
            due("the tick before the last", x.tick(19), 2);
            due("the age", x.told(5), 19);
            due("the last tick", x.tick(1), 3);
            due("the age", x.told(5), 0);
        });
        Sentences.test(section, "the phase 3 has no length and lasts until the next round is begun.", () -> {
            RevealBeacon x = Beacons.closed();
            x.set(0, 1);
            x.set(1, 1);
            x.set(2, 1);
            x.set(3, 1);
            for (int i = 1; i <= 5; i++) {
                due("tick(60)", x.tick(60), 3);
                due("the age", x.told(5), 60 * i);
            }
            due("the output", x.told(11), 99);
            due("next()", x.next(), 1);
            due("the phase", x.told(4), 0);
            due("the age", x.told(5), 0);
            due("the clock", x.told(2), 312);
        });
    }

    /** A commitment by the member 2 or a revelation by 1, a share by 2, the next round: one for each phase. */
    private static void checkWhatIsPossible(RevealBeacon x, int phase) {
        due("told(4)", x.told(4), phase);
        due("commit() in " + phase, x.commit(2, 255, 0), phase == 0 ? 6373 : -2);
        due("reveal() in " + phase, x.reveal(1, 7, 998), phase == 1 ? 0 : -2);
        due("give() in " + phase, x.give(0, 2), phase == 2 ? 1 : -2);
        due("next() in " + phase, x.next(), phase == 3 ? 1 : -2);
    }

    private static void endsOfPhases() {
        String section = "ROUNDS";
        Sentences.test(section, "At the end of the phase 0, if less than 2 members have committed themselves, the round"
            + " fails: the phase becomes 3 at once, with the age 0, and its output is NONE.", () -> {
            for (int m = 2; m <= 8; m++) {
                for (int bound = 0; bound <= m; bound++) {
                    checkEndOfCommitments(m, bound);
                }
            }
            RevealBeacon x = Beacons.failed();
            due("the failed one has no fine", x.member(0, 6), 0);
            due("its commitment stays", x.member(0, 2), 3373);
            due("a tick more", x.tick(1), 3);
            due("the age", x.told(5), 1);
            x.next();
            due("past(0)", x.past(0), -9);
        });
        Sentences.test(section, "At the end of the phase 1, each member that has committed itself and has not revealed"
            + " its secret is fined for silence.", () -> {
            RevealBeacon x = Beacons.of(5, 2);
            for (int i = 0; i < 4; i++) {
                x.commit(i, 1 << i, i);
            }
            x.tick(4);
            Beacons.revealPower(x, 0);
            x.reveal(2, 0, 0);
            x.turn(3, 0);
            due("the tick before the last", x.tick(3), 1);
            due("no fine yet", x.told(6), 3);
            due("the last tick", x.tick(1), 2);
            int[] deposits = {20, 15, 12, 15, 20};
            int[] fines = {0, 1, 2, 1, 0};
            for (int i = 0; i < 5; i++) {
                due("the deposit of " + i, x.member(i, 0), deposits[i]);
                due("the fines of " + i, x.member(i, 6), fines[i]);
            }
            due("the pool", x.told(6), 18);
            x.tick(3);
            due("no fine more", x.told(6), 18);
        });
        Sentences.test(section, "If all have revealed theirs then, the phase becomes 3 at once, with the age 0.", () -> {
            for (int m = 2; m <= 8; m++) {
                for (int revealed = 0; revealed <= m; revealed++) {
                    checkEndOfRevelations(m, revealed);
                }
            }
            RevealBeacon x = Beacons.twoInRevelations();
            x.reveal(0, 100, 5);
            x.reveal(1, 7, 999);
            due("all revealed, not yet at the end", x.tick(3), 1);
            due("one without a commitment does not count", x.tick(2), 3);
            due("the age of the tick after it", x.told(5), 1);
        });
        Sentences.test(section, "When the phase 3 is reached from the phase 1 or 2, the pool is paid out, and the output"
            + " is determined.", () -> {
            RevealBeacon x = Beacons.twoInRevelations();
            x.reveal(1, 0, 0);
            x.reveal(0, 100, 5);
            x.reveal(1, 7, 999);
            due("the pool in 1", x.told(6), 3);
            due("no output in 1", x.told(11), -9);
            due("from 1", x.tick(4), 3);
            due("the pool", x.told(6), 1);
            due("the output", x.told(11), 99);
            x = Beacons.recovery();
            due("the pool in 2", x.told(6), 10);
            due("no output in 2", x.told(11), -9);
            due("from 2", x.tick(4), 3);
            due("the pool", x.told(6), 0);
            due("the deposit", x.member(0, 0), 30);
            due("the output", x.told(11), 100);
            x.set(5, 1);
            due("it is determined", x.told(11), 100);
            x = Beacons.poor(13);
            x.commit(0, 1, 1);
            due("from 0", x.tick(4), 3);
            due("the pool is not paid out", x.told(6), 7);
        });
    }

    private static void checkEndOfCommitments(int members, int bound) {
        RevealBeacon x = Beacons.of(members, 2);
        for (int i = members - bound; i < members; i++) {
            x.commit(i, i, i);
        }
        String what = bound + " of " + members + ": ";
        due(what + "the tick before the last", x.tick(3), 0);
        due(what + "the last tick", x.tick(1), bound < 2 ? 3 : 1);
        due(what + "the age", x.told(5), 0);
        due(what + "the output", x.told(11), -9);
        due(what + "the pool", x.told(6), 0);
    }

    private static void checkEndOfRevelations(int members, int revealed) {
        RevealBeacon x = Beacons.powers(members, 2);
        for (int i = 0; i < revealed; i++) {
            Beacons.revealPower(x, i);
        }
        String what = revealed + " of " + members + ": ";
        due(what + "the tick before the last", x.tick(3), 1);
        due(what + "the last tick", x.tick(1), revealed == members ? 3 : 2);
        due(what + "the age", x.told(5), 0);
        due(what + "the output", x.told(11), revealed == members ? (1 << members) - 1 : -9);
        due(what + "the pool", x.told(6), 5 * (members - revealed));
    }

    private static void changes() {
        String section = "CHANGES";
        Sentences.test(section, "Some methods are called changes below (also if they change nothing).", () -> {
            Checks.change("begin() as at first", Beacons::fresh, x -> x.begin(3, 2), 1);
            Checks.change("set() to the same", Beacons::fresh, x -> x.set(5, 0), 0);
            Checks.change("setSeed() to the same", Beacons::fresh, x -> x.setSeed(1), 1);
            Checks.change("turn() on again", Beacons::fresh, x -> x.turn(0, 1), 1);
            Checks.change("back() to the same", DescriptionCases::keptAtFirst, x -> x.back(0), 0);
            Checks.change("a fine of 0", DescriptionCases::freeOfFines, x -> x.reveal(0, 0, 0), 0);
        });
        Sentences.test(section, "undo() removes the latest state and restores it.", () -> {
            Checks.change("begin()", Beacons::recovery, x -> x.begin(8, 8), 1);
            Checks.change("set()", Beacons::recovery, x -> x.set(0, 20), 4);
            Checks.change("setSeed()", Beacons::recovery, x -> x.setSeed(0), 662824084);
            Checks.change("turn()", Beacons::recovery, x -> x.turn(2, 0), 1);
            Checks.change("pay()", Beacons::recovery, x -> x.pay(2, 50), 65);
            Checks.change("commit()", Beacons::secondRound, x -> x.commit(0, 1, 1), 60);
            Checks.change("reveal()", Beacons::oneRevealed, x -> x.reveal(1, 7, 999), 1);
            Checks.change("reveal() of a false one", Beacons::oneRevealed, x -> x.reveal(1, 7, 0), 0);
            Checks.change("publish()", Beacons::oneShare, x -> x.publish(0, 1, 111), 2);
            Checks.change("publish() of a false one", Beacons::oneShare, x -> x.publish(0, 1, 110), 0);
            Checks.change("give()", Beacons::oneShare, x -> x.give(0, 1), 2);
            Checks.change("tick()", Beacons::oneRevealed, x -> x.tick(60), 3);
            Checks.change("next()", Beacons::closed, x -> x.next(), 1);
            Checks.change("back()", DescriptionCases::keptAtFirst, x -> x.back(0), 0);
        });
        Sentences.test(section, "The constants: - `BAD = -1, STATE = -2, FULL = -3, NONE = -9`: The error codes, and the"
            + " value for \"there is none\".", () -> {
            due("BAD", RevealBeacon.BAD, -1);
            due("STATE", RevealBeacon.STATE, -2);
            due("FULL", RevealBeacon.FULL, -3);
            due("NONE", RevealBeacon.NONE, -9);
        });
        Sentences.test(section, "The constructor and the methods follow, a promise each: the signature, then what it"
            + " does.", () -> due("the constructor", new RevealBeacon().told(0), 3));
    }

    private static RevealBeacon keptAtFirst() {
        RevealBeacon x = new RevealBeacon();
        x.keep(0);
        return x;
    }

    private static RevealBeacon freeOfFines() {
        RevealBeacon x = Beacons.revelations();
        x.set(4, 0);
        return x;
    }

    private static void history() {
        String section = "CHANGES";
        Sentences.test(section, "A history of at most 8 states is kept:", () -> {
            RevealBeacon x = new RevealBeacon();
            for (int i = 1; i <= 30; i++) {
                x.pay(0, 1);
                due("after " + i + " changes", x.told(14), Math.min(i, 8));
            }
        });
        Sentences.test(section, "a change that returns no error code records everything before it, except the images;",
            () -> {
            RevealBeacon x = new RevealBeacon();
            x.keep(0);
            x.pay(1, 1);
            x.keep(0);
            due("keep() is no change", x.told(14), 1);
            due("undo()", x.undo(), 0);
            due("the deposit", x.member(1, 0), 20);
            due("the image is not undone", x.back(0), 0);
            due("its deposit", x.member(1, 0), 21);
            due("an error", x.tick(0), -1);
            due("is not recorded", x.told(14), 1);
            x = Beacons.round(3);
            x.begin(8, 8);
            x.undo();
            due("the past is recorded", x.past(2), -9);
        });
        Sentences.test(section, "if there are more than 8, the oldest one is dropped;", () -> {
            for (int changes = 7; changes <= 20; changes++) {
                RevealBeacon x = new RevealBeacon();
                for (int i = 0; i < changes; i++) {
                    x.pay(0, i + 1);
                }
                int recorded = Math.min(changes, 8);
                for (int left = recorded - 1; left >= 0; left--) {
                    due("undo()", x.undo(), left);
                    due("the deposit", x.member(0, 0), afterPayments(changes - recorded + left));
                }
                due("undo() of the dropped one", x.undo(), -2);
                due("the deposit", x.member(0, 0), afterPayments(changes - recorded));
            }
        });
        Sentences.test(section, "undo() removes the latest state and restores it.", () -> {
            RevealBeacon x = new RevealBeacon();
            for (int i = 0; i < 12; i++) {
                x.pay(0, i + 1);
            }
            due("undo()", x.undo(), 7);
            due("undo()", x.undo(), 6);
            due("the deposit", x.member(0, 0), afterPayments(10));
            due("another change", x.pay(1, 9), 29);
            due("it is recorded", x.told(14), 7);
            due("undo() of it", x.undo(), 6);
            due("the deposit", x.member(1, 0), 20);
            due("undo()", x.undo(), 5);
            due("the deposit", x.member(0, 0), afterPayments(9));
        });
    }

    /** The deposit after the payments of 1, 2 and so on to n. */
    private static int afterPayments(int n) {
        return 20 + n * (n + 1) / 2;
    }
}
