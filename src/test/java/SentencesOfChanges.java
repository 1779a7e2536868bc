/** Sentences of promises 1 to 8 (what changes users and channels), 22 and 23 (images). */
final class SentencesOfChanges {
    private static final int[] FAR = {Integer.MIN_VALUE, -1000000001, Integer.MAX_VALUE};

    private final Sentences s;

    SentencesOfChanges(Sentences sentences) {
        s = sentences;
    }

    void all() {
        newObject();
        channels();
        channelsOutside();
        user();
        userRefused();
        open();
        set();
        shut();
        shutRefused();
        drift();
        undo();
        keep();
        goBack();
        goBackRefused();
    }

    private static HopMeet waiting(int... starts) {
        HopMeet x = new HopMeet();
        for (int start : starts) {
            x.user(2, start, 0, 0);
        }
        return x;
    }

    private void newObject() {
        s.says("Promise 1", "Four CHANNELS, no USERS.");
        HopMeet x = new HopMeet();
        int[] told = {4, 5, 0, 0, 15, 0, 0, 0, 0};
        for (int what = 0; what < told.length; what++) {
            s.is("told(" + what + ")", x.told(what), told[what]);
        }
        s.unknown("shut(-1, 4, 0, 1)", x.shut(-1, 4, 0, 1));
        s.is("shut(-1, 3, 0, 1)", x.shut(-1, 3, 0, 1), 1);
        x.user(0, 0, 0, 0);
        HopMeet other = new HopMeet();
        s.is("another object has no USERS", other.told(2), 0);
        s.is("and no spells", other.told(3), 0);
    }

    private void channels() {
        s.says("Promise 2", "N CHANNELS (2 .. 10):");
        HopMeet x = new HopMeet();
        for (int n = 2; n <= 10; n++) {
            x.channels(n);
            s.is("N", x.told(0), n);
        }

        s.says("Promise 2", "no USERS, spells, nothing to be undone");
        x = waiting(0, 1);
        x.shut(-1, 0, 0, 500);
        s.is("channels(4) where there are four", x.channels(4), 5);
        s.is("USERS", x.told(2), 0);
        s.is("spells", x.told(3), 0);
        s.is("how many can be undone", x.told(8), 0);
        s.not("undo()", x.undo());
        s.is("users are counted from 0 again", x.user(2, 0, 0, 0), 0);
        s.is("no spell is left", x.on(0, 0), 0);

        s.says("Promise 2", "(IMAGES stay):");
        x = waiting(3, 3);
        x.keep(0);
        s.is("channels(2)", x.channels(2), 3);
        s.is("goBack(0)", x.goBack(0), 2);
        s.is("N", x.told(0), 4);
        s.not("the other was not kept", x.goBack(1));

        s.says("Promise 2", "PRIME.");
        int[] primes = {3, 5, 5, 7, 7, 11, 11, 11, 11};
        for (int n = 10; n >= 2; n--) {
            s.is("channels(" + n + ")", x.channels(n), primes[n - 2]);
        }
    }

    private void channelsOutside() {
        s.says("Promise 2", "OUTSIDE.");
        HopMeet x = waiting(0);
        s.outside("channels(1)", x.channels(1));
        s.outside("channels(11)", x.channels(11));
        s.outside("channels(0)", x.channels(0));
        for (int far : FAR) {
            s.outside("channels(" + far + ")", x.channels(far));
        }
        s.is("the user is still there", x.told(2), 1);
        s.is("N", x.told(0), 4);
    }

    private void user() {
        s.says("Promise 3", "A USER to whom all CHANNELS are OPEN:");
        for (int n = 2; n <= 10; n++) {
            HopMeet x = new HopMeet();
            x.channels(n);
            x.user(0, 0, 0, 0);
            s.is("OPEN of " + n, x.userOf(0, 4), (1 << n) - 1);
        }
        HopMeet x = waiting(0, 0);
        x.open(1, 3);
        x.undo();
        x.undo();
        x.user(0, 0, 0, 0);
        s.is("OPEN where one was that is undone", x.userOf(1, 4), 15);

        s.says("Promise 3", "its number.");
        x = new HopMeet();
        s.is("the first", x.user(0, 0, 0, 0), 0);
        s.is("the second", x.user(3, 99, 99, 200), 1);
        int[] want = {3, 99, 99, 200};
        for (int what = 0; what < want.length; what++) {
            s.is("userOf(1, " + what + ")", x.userOf(1, what), want[what]);
            s.is("userOf(0, " + what + ")", x.userOf(0, what), 0);
        }
        x.undo();
        s.is("the second again, when that is undone", x.user(0, 0, 0, 0), 1);
    }

    private void userRefused() {
        s.says("Promise 3", "OUTSIDE, FULL (5).");
        HopMeet x = new HopMeet();
        int[] most = {3, 99, 99, 200};
        for (int what = 0; what < most.length; what++) {
            s.outside("one too small", userWith(x, what, -1));
            s.outside("one too large", userWith(x, what, most[what] + 1));
            for (int far : FAR) {
                s.outside("one far out", userWith(x, what, far));
            }
        }
        s.is("none came by these", x.told(2), 0);
        for (int u = 0; u < 5; u++) {
            s.is("user " + u, x.user(0, 0, 0, 0), u);
        }
        s.full("a sixth", x.user(0, 0, 0, 0));
        s.outside("OUTSIDE ahead of FULL", x.user(0, 0, 0, 201));
        s.is("five", x.told(2), 5);
        s.is("changes", x.told(8), 5);
    }

    private static int userWith(HopMeet x, int what, int v) {
        int[] of = new int[4];
        of[what] = v;
        return x.user(of[0], of[1], of[2], of[3]);
    }

    private void open() {
        s.says("Promise 4", "OPEN of a USER: what it was.");
        HopMeet x = new HopMeet();
        x.channels(10);
        x.user(0, 0, 0, 0);
        x.user(0, 0, 0, 0);
        s.is("none", x.open(1, 0), 1023);
        s.is("the last one", x.open(1, 512), 0);
        s.is("all", x.open(1, 1023), 512);
        s.is("all once more", x.open(1, 1023), 1023);
        s.is("it is", x.userOf(1, 4), 1023);
        s.is("to change it to what it was is a change", x.told(8), 6);
        s.is("open(0, 1)", x.open(0, 1), 1023);
        s.is("of the other one", x.userOf(1, 4), 1023);

        s.says("Promise 4", "UNKNOWN, OUTSIDE.");
        s.unknown("open(-1, 0)", x.open(-1, 0));
        s.unknown("open(2, 0)", x.open(2, 0));
        s.unknown("open(2, -1)", x.open(2, -1));
        s.outside("open(0, -1)", x.open(0, -1));
        s.outside("open(0, 1024)", x.open(0, 1024));
        for (int far : FAR) {
            s.unknown("open(" + far + ", 0)", x.open(far, 0));
            s.outside("open(0, " + far + ")", x.open(0, far));
        }
        x.channels(2);
        s.unknown("open(0, 0) with no USERS", x.open(0, 0));
        x.user(0, 0, 0, 0);
        s.outside("open(0, 4) of two CHANNELS", x.open(0, 4));
        s.is("open(0, 3) of two CHANNELS", x.open(0, 3), 3);
    }

    private void set() {
        s.says("Promise 5", "what = 0 ROW, 1 START, 2 STEP, 3 WAKES of a USER becomes v: what it was.");
        HopMeet x = new HopMeet();
        x.user(1, 10, 20, 30);
        x.user(2, 11, 21, 31);
        int[] was = {2, 11, 21, 31};
        int[] most = {3, 99, 99, 200};
        for (int what = 0; what < 4; what++) {
            s.is("set(1, " + what + ", most)", x.set(1, what, most[what]), was[what]);
            s.is("set(1, " + what + ", 0)", x.set(1, what, 0), most[what]);
            s.is("set(1, " + what + ", 0) again", x.set(1, what, 0), 0);
            s.is("userOf(1, " + what + ")", x.userOf(1, what), 0);
        }
        s.is("ROW of the other", x.userOf(0, 0), 1);
        s.is("WAKES of the other", x.userOf(0, 3), 30);

        s.says("Promise 5", "UNKNOWN, OUTSIDE.");
        s.unknown("set(2, 0, 0)", x.set(2, 0, 0));
        s.unknown("set(-1, 0, 0)", x.set(-1, 0, 0));
        s.unknown("set(2, 4, -1)", x.set(2, 4, -1));
        s.outside("set(0, -1, 0)", x.set(0, -1, 0));
        s.outside("set(0, 4, 0)", x.set(0, 4, 0));
        for (int what = 0; what < 4; what++) {
            s.outside("set(0, " + what + ", -1)", x.set(0, what, -1));
            s.outside("set(0, " + what + ", more)", x.set(0, what, most[what] + 1));
        }
        for (int far : FAR) {
            s.unknown("set(" + far + ", 0, 0)", x.set(far, 0, 0));
            s.outside("set(0, " + far + ", 0)", x.set(0, far, 0));
            s.outside("set(0, 3, " + far + ")", x.set(0, 3, far));
        }
        s.unknown("set(0, 0, 0) with no USERS", new HopMeet().set(0, 0, 0));
    }

    private void shut() {
        s.says("Promise 6", "SHUT for a USER (NONE: for all): how many spells.");
        HopMeet x = waiting(0, 0);
        s.is("for 1", x.shut(1, 0, 5, 1), 1);
        s.is("why(1, 5)", x.why(1, 5), 3);
        s.is("why(0, 5)", x.why(0, 5), 0);
        s.is("for all", x.shut(-1, 0, 9, 1), 2);
        s.is("why(1, 9)", x.why(1, 9), 3);
        s.is("why(0, 9)", x.why(0, 9), 3);
        s.is("the same once more is one more", x.shut(-1, 0, 9, 1), 3);
        x.undo();
        s.is("how many after undo()", x.shut(0, 3, 0, 1), 3);
        s.is("for all with no USERS", new HopMeet().shut(-1, 0, 0, 1), 1);
    }

    private void shutRefused() {
        s.says("Promise 6", "UNKNOWN (USER, CHANNEL),");
        HopMeet x = waiting(0, 0);
        s.unknown("USER 2", x.shut(2, 0, 0, 1));
        s.unknown("USER -2", x.shut(-2, 0, 0, 1));
        s.unknown("CHANNEL 4", x.shut(0, 4, 0, 1));
        s.unknown("CHANNEL -1", x.shut(0, -1, 0, 1));
        s.unknown("CHANNEL 4 for all", x.shut(-1, 4, 0, 1));
        s.unknown("USER 0 where there is none", new HopMeet().shut(0, 0, 0, 1));
        for (int far : FAR) {
            s.unknown("USER " + far, x.shut(far, 0, 0, 1));
            s.unknown("CHANNEL " + far, x.shut(0, far, 0, 1));
        }

        s.says("Promise 6", "OUTSIDE (slot 0 .. 1500),");
        s.outside("slot -1", x.shut(0, 0, -1, 1));
        s.outside("slot 1501", x.shut(0, 0, 1501, 1));
        s.outside("for 0 slots", x.shut(0, 0, 0, 0));
        s.outside("for 501 slots", x.shut(0, 0, 0, 501));
        for (int far : FAR) {
            s.outside("slot " + far, x.shut(0, 0, far, 1));
            s.outside("for " + far + " slots", x.shut(0, 0, 0, far));
        }
        s.is("no spell by these", x.told(3), 0);
        s.is("slot 0", x.shut(0, 0, 0, 1), 1);
        s.is("slot 1500", x.shut(0, 0, 1500, 500), 2);
        int[] slots = {0, 1, 1499, 1500, 1999, 2000};
        int[] why = {3, 0, 0, 3, 3, 0};
        for (int i = 0; i < slots.length; i++) {
            s.is("why(0, " + slots[i] + ")", x.why(0, slots[i]), why[i]);
        }

        s.says("Promise 6", "FULL (8).");
        for (int spells = 3; spells <= 8; spells++) {
            s.is("spell " + spells, x.shut(-1, 3, 0, 1), spells);
        }
        s.full("a ninth", x.shut(-1, 3, 0, 1));
        s.is("spells", x.told(3), 8);
        s.is("changes", x.told(8), 10);
        x.undo();
        s.is("room again", x.shut(-1, 3, 0, 1), 8);
    }

    private void drift() {
        s.says("Promise 7", "USERS BY LOTS of a SEED (1 .. 999999): COMMON.");
        // OPEN by lots of 1: 16807 and 1144108930 by 16, 7 and 2
        HopMeet x = waiting(0, 0);
        s.is("drift(1)", x.drift(1), 2);
        s.is("COMMON", x.told(4), 2);
        s.is("ROW stays", x.userOf(0, 0), 2);
        s.is("drift(1) once more is the same", x.drift(1), 2);
        x.drift(999999);
        s.is("999999: 999999 times 16807 twice, left over: START", x.userOf(0, 1), 1774597664L * 16807 % 2147483647 % 100);
        s.is("USERS", x.told(2), 2);

        s.says("Promise 7", "OUTSIDE, NOT: no USERS.");
        s.outside("drift(0)", x.drift(0));
        s.outside("drift(1000000)", x.drift(1000000));
        for (int far : FAR) {
            s.outside("drift(" + far + ")", x.drift(far));
        }
        s.is("changes", x.told(8), 5);
        x = new HopMeet();
        s.not("drift(1)", x.drift(1));
        s.not("drift(999999)", x.drift(999999));
        s.outside("drift(0)", x.drift(0));
        s.is("nothing can be undone by these", x.told(8), 0);
    }

    private void undo() {
        s.says("Promise 8", "The latest is undone: how many more can be.");
        HopMeet x = waiting(0, 1);
        x.open(0, 0);
        s.is("open() undone", x.undo(), 2);
        s.is("OPEN", x.userOf(0, 4), 15);
        s.is("user() undone", x.undo(), 1);
        s.is("USERS", x.told(2), 1);
        x.set(0, 1, 9);
        s.is("what comes then can be undone", x.undo(), 1);
        s.is("the first is undone", x.undo(), 0);
        s.is("USERS", x.told(2), 0);

        s.says("Promise 8", "NOT: none.");
        s.not("none are left", x.undo());
        s.not("none in a new object", new HopMeet().undo());
        x.user(0, 0, 0, 0);
        x.channels(4);
        s.not("none after channels()", x.undo());
        x.user(2, 0, 0, 0);
        x.keep(0);
        x.goBack(0);
        x.run(5);
        s.not("none after goBack()", x.undo());
        s.is("what is refused leaves what was RUN", x.told(5), 5);
    }

    private void keep() {
        s.says("Promise 22", "IMAGE i becomes what is so: how many USERS.");
        HopMeet x = new HopMeet();
        s.is("keep(0) of none", x.keep(0), 0);
        for (int u = 0; u < 5; u++) {
            x.user(2, u, 0, 0);
        }
        s.is("keep(1) of five", x.keep(1), 5);
        s.is("goBack(0)", x.goBack(0), 0);
        s.is("goBack(1)", x.goBack(1), 5);
        s.is("keep(0) anew", x.keep(0), 5);
        x.set(4, 1, 50);
        x.channels(2);
        s.is("goBack(0)", x.goBack(0), 5);
        s.is("it is what was so when it was kept", x.userOf(4, 1), 4);
        x.set(4, 1, 51);
        x.run(6);
        x.keep(0);
        s.is("slots that were RUN stay", x.told(5), 6);
        s.is("what can be undone stays", x.told(8), 1);

        s.says("Promise 22", "UNKNOWN.");
        s.unknown("keep(-1)", x.keep(-1));
        s.unknown("keep(2)", x.keep(2));
        for (int far : FAR) {
            s.unknown("keep(" + far + ")", x.keep(far));
        }
    }

    private void goBack() {
        s.says("Promise 23", "What is so becomes IMAGE i");
        HopMeet x = waiting(3, 1);
        x.open(1, 6);
        x.shut(1, 1, 4, 2);
        x.keep(1);
        x.channels(2);
        x.user(1, 0, 0, 0);
        x.shut(-1, 0, 0, 500);
        x.shut(-1, 1, 0, 500);
        s.is("goBack(1)", x.goBack(1), 2);
        s.is("N", x.told(0), 4);
        s.is("spells", x.told(3), 1);
        s.is("OPEN", x.userOf(1, 4), 6);
        s.is("START", x.userOf(0, 1), 3);
        s.is("on(0, 0)", x.on(0, 0), 3);
        s.is("why(1, 3)", x.why(1, 3), 0);
        s.is("why(1, 4)", x.why(1, 4), 3);
        s.is("why(1, 6)", x.why(1, 6), 0);
        x.set(0, 1, 2);
        s.is("goBack(1) again", x.goBack(1), 2);
        s.is("the image has stayed", x.userOf(0, 1), 3);

        s.says("Promise 23", "(nothing can be undone then; RUN begins anew):");
        x = waiting(3, 3);
        x.keep(0);
        x.run(9);
        s.is("ahead: GROUPS", x.told(6), 1);
        x.goBack(0);
        s.is("told(8)", x.told(8), 0);
        s.not("undo()", x.undo());
        s.is("slots", x.told(5), 0);
        s.is("GROUPS", x.told(6), 2);
        s.is("the least of 1", x.userOf(1, 5), 1);

        s.says("Promise 23", "how many USERS.");
        s.is("two", x.goBack(0), 2);
        x.channels(4);
        x.keep(0);
        s.is("none", x.goBack(0), 0);
    }

    private void goBackRefused() {
        s.says("Promise 23", "UNKNOWN, NOT: it was not kept.");
        HopMeet x = waiting(0);
        s.unknown("goBack(-1)", x.goBack(-1));
        s.unknown("goBack(2)", x.goBack(2));
        for (int far : FAR) {
            s.unknown("goBack(" + far + ")", x.goBack(far));
        }
        s.not("goBack(0)", x.goBack(0));
        s.not("goBack(1)", x.goBack(1));
        x.keep(1);
        s.not("goBack(0) where 1 was kept", x.goBack(0));
        s.is("goBack(1)", x.goBack(1), 1);
        s.not("goBack(0) still", x.goBack(0));
    }
}
