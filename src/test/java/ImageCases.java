/** Promises 26 and 27. */
final class ImageCases {
    private static final int[] NO_IMAGES = {2, -1, Integer.MAX_VALUE, Integer.MIN_VALUE};

    private ImageCases() {
    }

    static void run() {
        keep();
        keepReturned();
        back();
        backIsRecorded();
        backReturned();
    }

    private static void due(String call, long got, long want) {
        Checks.due(call, got, want);
    }

    private static void keep() {
        String section = "Promise 26: keep";
        Sentences.test(section, "Keeps everything, except the images and what can be undone, in an image,", () -> {
            RevealBeacon x = full();
            x.keep(0);
            for (int i = 0; i < 8; i++) {
                x.pay(0, 1);
            }
            x.begin(8, 1);
            x.setSeed(5);
            for (int i = 0; i < 6; i++) {
                x.set(i, 1);
            }
            due("back(0)", x.back(0), 1);
            Checks.same("everything", Checks.look(x), Checks.look(full()));
            due("not what could be undone", x.told(14), 8);
            due("undo() of back(0)", x.undo(), 7);
            due("the members of before", x.told(0), 8);
            x = new RevealBeacon();
            x.keep(0);
            x.pay(0, 1);
            x.keep(1);
            x.back(0);
            due("the other image is not in it", x.back(1), 0);
            due("its deposit", x.member(0, 0), 21);
        });
        Sentences.test(section, "replacing what it kept before.", () -> {
            RevealBeacon x = new RevealBeacon();
            x.pay(0, 1);
            x.keep(0);
            x.keep(1);
            x.pay(0, 2);
            x.keep(0);
            x.pay(0, 3);
            x.back(0);
            due("the image 0, kept twice", x.member(0, 0), 23);
            x.back(1);
            due("the image 1, kept once", x.member(0, 0), 21);
            x.begin(8, 8);
            x.keep(0);
            x.back(1);
            x.back(0);
            due("the image 0, kept three times", x.told(0), 8);
        });
        Sentences.test(section, "(This is no change.)", () -> {
            Checks.query("keep(0)", Beacons::closed, x -> x.keep(0), 0);
            Checks.query("keep(1)", Beacons::recovery, x -> x.keep(1), 0);
            RevealBeacon x = new RevealBeacon();
            x.pay(0, 1);
            x.keep(0);
            due("what can be undone", x.told(14), 1);
            due("undo() of pay()", x.undo(), 0);
            due("undo() of keep()", x.undo(), -2);
            due("the image stays", x.back(0), 0);
            due("its deposit", x.member(0, 0), 21);
        });
    }

    /** In the second round, in the phase 2, one share published, a member off, other settings, fines, a pool. */
    private static RevealBeacon full() {
        RevealBeacon x = Beacons.secondRound();
        x.setSeed(2147483647);
        x.set(0, 2);
        x.set(3, 4);
        x.set(4, 2);
        x.set(5, 1);
        x.commit(0, 1, 0);
        x.commit(1, 2, 1);
        x.commit(2, 4, 2);
        x.tick(2);
        x.reveal(1, 0, 0);
        x.reveal(1, 2, 1);
        x.tick(4);
        x.give(1, 2);
        x.turn(1, 0);
        x.tick(3);
        return x;
    }

    private static void keepReturned() {
        String section = "Promise 26: keep";
        Sentences.test(section, "`i`: the image, 0 or 1", () -> {
            RevealBeacon x = new RevealBeacon();
            x.keep(1);
            due("the image 0 keeps nothing", x.back(0), -2);
            due("the image 1", x.back(1), 0);
            x = new RevealBeacon();
            x.keep(0);
            due("the image 1 keeps nothing", x.back(1), -2);
            due("the image 0", x.back(0), 0);
        });
        Sentences.test(section, "Returns the number of the present round;", () -> {
            due("in the first round", new RevealBeacon().keep(0), 0);
            due("in the second round", Beacons.secondRound().keep(1), 1);
            due("in the 30th round", Beacons.lastRound().keep(0), 29);
        });
        Sentences.test(section, "BAD if there is no such image.", () -> {
            for (int i : NO_IMAGES) {
                Checks.refused("keep(" + i + ")", Beacons::closed, x -> x.keep(i), -1);
            }
        });
    }

    private static void back() {
        String section = "Promise 27: back";
        Sentences.test(section, "Makes what an image keeps the present state;", () -> {
            RevealBeacon x = Beacons.secondRound();
            x.keep(0);
            x.begin(8, 5);
            x.set(3, 9);
            x.setSeed(77);
            x.commit(7, 1, 1);
            x.back(0);
            Checks.same("after back(0)", Checks.look(x), Checks.look(Beacons.secondRound()));
            x.commit(0, 9, 9);
            x.tick(4);
            x.next();
            due("past(0) and one round more", x.past(1), -9);
            x = new RevealBeacon();
            x.keep(1);
            x.begin(2, 2);
            due("one after begin()", x.back(1), 0);
            due("the members", x.told(0), 3);
            due("the threshold", x.told(1), 2);
        });
        Sentences.test(section, "the image stays.", () -> {
            RevealBeacon x = new RevealBeacon();
            x.pay(0, 1);
            x.keep(0);
            for (int k = 0; k < 10; k++) {
                x.pay(0, 5);
                x.commit(1, 1, 1);
                x.tick(2);
                due("back(0)", x.back(0), 0);
                due("the deposit", x.member(0, 0), 21);
                due("the commitments", x.told(8), 0);
                due("the clock", x.told(2), 0);
            }
            x.undo();
            due("after undo() of back(0)", x.member(0, 0), 26);
            x.back(0);
            due("the deposit", x.member(0, 0), 21);
        });
        Sentences.test(section, "`i`: the image", () -> {
            RevealBeacon x = new RevealBeacon();
            x.pay(0, 1);
            x.keep(0);
            x.pay(0, 1);
            x.keep(1);
            x.back(0);
            due("the image 0", x.member(0, 0), 21);
            x.back(1);
            due("the image 1", x.member(0, 0), 22);
        });
    }

    private static void backIsRecorded() {
        String section = "Promise 27: back";
        Sentences.test(section, "This is a change: it is recorded behind those that are recorded already.", () -> {
            RevealBeacon x = new RevealBeacon();
            x.keep(0);
            x.pay(0, 1);
            x.pay(0, 1);
            due("back(0)", x.back(0), 0);
            due("behind the others", x.told(14), 3);
            due("undo() of back(0)", x.undo(), 2);
            due("the deposit", x.member(0, 0), 22);
            due("undo() of pay()", x.undo(), 1);
            due("the deposit", x.member(0, 0), 21);
            x.undo();
            x.keep(1);
            for (int i = 1; i <= 8; i++) {
                x.pay(1, 1);
            }
            due("the ninth change", x.back(1), 0);
            due("what can be undone", x.told(14), 8);
            for (int i = 7; i >= 0; i--) {
                due("undo()", x.undo(), i);
                due("the deposit", x.member(1, 0), 21 + i);
            }
            due("the oldest one is dropped", x.undo(), -2);
            Checks.change("back(0)", ImageCases::kept, y -> y.back(0), 0);
        });
    }

    /** In the second round; the image 0 keeps the beginning. */
    private static RevealBeacon kept() {
        RevealBeacon x = new RevealBeacon();
        x.keep(0);
        x.commit(0, 100, 5);
        x.tick(4);
        x.next();
        return x;
    }

    private static void backReturned() {
        String section = "Promise 27: back";
        Sentences.test(section, "Returns the number of the present round then;", () -> {
            RevealBeacon x = new RevealBeacon();
            x.keep(0);
            x.tick(4);
            x.next();
            x.keep(1);
            due("to the first round", x.back(0), 0);
            due("to the second round", x.back(1), 1);
            x = Beacons.lastRound();
            x.keep(1);
            x.begin(3, 2);
            due("to the 30th round", x.back(1), 29);
            due("which is the last one", x.next(), -3);
        });
        Sentences.test(section, "BAD if there is no such image;", () -> {
            for (int i : NO_IMAGES) {
                Checks.refused("back(" + i + ")", Beacons::closed, x -> x.back(i), -1);
                Checks.refused("back(" + i + ")", ImageCases::kept, x -> x.back(i), -1);
            }
        });
        Sentences.test(section, "STATE if nothing was kept in it.", () -> {
            Checks.refused("back(0)", Beacons::closed, x -> x.back(0), -2);
            Checks.refused("back(1)", Beacons::closed, x -> x.back(1), -2);
            Checks.refused("back(1) with the image 0 kept", ImageCases::kept, x -> x.back(1), -2);
            RevealBeacon x = new RevealBeacon();
            x.begin(3, 2);
            due("after begin()", x.back(0), -2);
            x.keep(0);
            x.begin(3, 2);
            due("one kept before begin()", x.back(0), 0);
        });
    }
}
