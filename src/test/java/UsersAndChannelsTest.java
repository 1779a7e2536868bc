/** Promises 1 to 10: a new object, channels, users, what is open and shut, lots, undoing, what is told. */
public final class UsersAndChannelsTest {
    private static final Due due = new Due("UsersAndChannelsTest");
    private static final int[] FAR = {Integer.MIN_VALUE, -1000000001, Integer.MAX_VALUE};

    public static void main(String[] args) {
        constants();
        newObject();
        channels();
        channelsClears();
        user();
        open();
        set();
        setOutside();
        shut();
        shutWrong();
        drift();
        driftOfFive();
        undo();
        undoBringsBack();
        undoneTwelve();
        told();
        userOf();
        due.end();
    }

    private static void constants() {
        due.is("NONE", HopMeet.NONE, -1);
        due.is("NEVER", HopMeet.NEVER, 99999);
        due.is("UNKNOWN", HopMeet.UNKNOWN, -1000000001);
        due.is("OUTSIDE", HopMeet.OUTSIDE, -1000000002);
        due.is("NOT", HopMeet.NOT, -1000000003);
        due.is("FULL", HopMeet.FULL, -1000000004);
    }

    private static void toldAll(String when, HopMeet x, int... want) {
        for (int what = 0; what < want.length; what++) {
            due.is(when + ": told(" + what + ")", x.told(what), want[what]);
        }
    }

    // Promise 1
    private static void newObject() {
        HopMeet x = new HopMeet();
        toldAll("new", x, 4, 5, 0, 0, 15, 0, 0, 0, 0);
        due.not("undo() of a new object", x.undo());
        due.not("goBack(0) of a new object", x.goBack(0));
        due.not("goBack(1) of a new object", x.goBack(1));
        due.is("part() of a new object", x.part(), 0);
        due.unknown("userOf(0, 0) of a new object", x.userOf(0, 0));
        HopMeet other = new HopMeet();
        other.user(1, 2, 3, 4);
        due.is("another object has users of its own", x.told(2), 0);
    }

    // Promise 2
    private static void channels() {
        HopMeet x = new HopMeet();
        int[] primes = {3, 5, 5, 7, 7, 11, 11, 11, 11};
        for (int n = 2; n <= 10; n++) {
            due.is("channels(" + n + ")", x.channels(n), primes[n - 2]);
            toldAll("channels(" + n + ")", x, n, primes[n - 2], 0, 0, (1 << n) - 1, 0, 0, 0, 0);
        }
        for (int n : new int[] {1, 11, 0, -1, -2, 12, Integer.MIN_VALUE, Integer.MAX_VALUE}) {
            due.outside("channels(" + n + ")", x.channels(n));
        }
        toldAll("after refusals", x, 10, 11, 0, 0, 1023, 0, 0, 0, 0);
    }

    private static void channelsClears() {
        HopMeet x = new HopMeet();
        x.user(2, 1, 0, 0);
        x.user(2, 2, 0, 0);
        x.shut(-1, 3, 0, 500);
        x.run(7);
        due.is("keep(1)", x.keep(1), 2);
        due.outside("channels(11)", x.channels(11));
        toldAll("refused", x, 4, 5, 2, 1, 15, 7, 2, 0, 3);
        due.is("channels(4) where there are four", x.channels(4), 5);
        toldAll("cleared", x, 4, 5, 0, 0, 15, 0, 0, 0, 0);
        due.not("undo() after channels()", x.undo());
        due.unknown("userOf(0, 0) after channels()", x.userOf(0, 0));
        due.is("user after channels()", x.user(2, 3, 0, 0), 0);
        due.is("no spell is left", x.on(0, 0), 3);
        x.channels(9);
        due.is("goBack(1): images stay", x.goBack(1), 2);
        toldAll("gone back", x, 4, 5, 2, 1, 15, 0, 2, 0, 0);
    }

    // Promise 3
    private static void user() {
        HopMeet x = new HopMeet();
        due.is("user(0, 0, 0, 0)", x.user(0, 0, 0, 0), 0);
        due.is("user(3, 99, 99, 200)", x.user(3, 99, 99, 200), 1);
        int[] want = {3, 99, 99, 200, 15, 1, 1};
        for (int what = 0; what < want.length; what++) {
            due.is("userOf(1, " + what + ")", x.userOf(1, what), want[what]);
        }
        outsideUser(x, -1, 0, 0, 0);
        outsideUser(x, 4, 0, 0, 0);
        outsideUser(x, 0, -1, 0, 0);
        outsideUser(x, 0, 100, 0, 0);
        outsideUser(x, 0, 0, -1, 0);
        outsideUser(x, 0, 0, 100, 0);
        outsideUser(x, 0, 0, 0, -1);
        outsideUser(x, 0, 0, 0, 201);
        for (int far : FAR) {
            outsideUser(x, far, 0, 0, 0);
            outsideUser(x, 0, far, 0, 0);
            outsideUser(x, 0, 0, far, 0);
            outsideUser(x, 0, 0, 0, far);
        }
        toldAll("two users", x, 4, 5, 2, 0, 15, 0, 2, 0, 2);
        due.is("third", x.user(1, 5, 6, 7), 2);
        due.is("fourth", x.user(1, 5, 6, 7), 3);
        due.is("fifth", x.user(2, 5, 6, 7), 4);
        due.full("sixth", x.user(2, 5, 6, 7));
        outsideUser(x, 4, 0, 0, 0);
        toldAll("five users", x, 4, 5, 5, 0, 15, 0, 5, 0, 5);
        x.undo();
        due.is("the number that was undone comes again", x.user(0, 1, 1, 1), 4);
    }

    private static void outsideUser(HopMeet x, int row, int start, int step, int wakes) {
        due.outside("user(" + row + ", " + start + ", " + step + ", " + wakes + ")", x.user(row, start, step, wakes));
    }

    // Promise 4
    private static void open() {
        HopMeet x = new HopMeet();
        x.channels(10);
        x.user(0, 0, 0, 0);
        x.user(0, 0, 0, 0);
        due.is("open(1, 0)", x.open(1, 0), 1023);
        due.is("open(1, 1023)", x.open(1, 1023), 0);
        due.is("open(1, 512)", x.open(1, 512), 1023);
        due.is("open(1, 512) again", x.open(1, 512), 512);
        due.is("what is the same is a change too", x.told(8), 6);
        due.is("open of the other", x.userOf(0, 4), 1023);
        due.is("OPEN", x.userOf(1, 4), 512);
        for (int set : new int[] {-1, 1024, Integer.MIN_VALUE, Integer.MAX_VALUE}) {
            due.outside("open(0, " + set + ")", x.open(0, set));
            due.unknown("open(2, " + set + ")", x.open(2, set));
            due.unknown("open(-1, " + set + ")", x.open(-1, set));
        }
        due.unknown("open(2, 1)", x.open(2, 1));
        due.unknown("open(-1, 1)", x.open(-1, 1));
        due.is("what is refused is no change", x.told(8), 6);
        x.run(3);
        x.open(0, 5);
        due.is("RUN begins anew", x.told(5), 0);
        x.channels(2);
        x.user(0, 0, 0, 0);
        due.is("open(0, 3)", x.open(0, 3), 3);
        due.outside("open(0, 4)", x.open(0, 4));
    }

    // Promise 5
    private static void set() {
        HopMeet x = new HopMeet();
        x.user(0, 10, 20, 30);
        x.user(1, 11, 21, 31);
        int[] was = {1, 11, 21, 31};
        int[] most = {3, 99, 99, 200};
        for (int what = 0; what <= 3; what++) {
            due.is("set(1, " + what + ", most)", x.set(1, what, most[what]), was[what]);
            due.is("userOf(1, " + what + ")", x.userOf(1, what), most[what]);
            due.is("set(1, " + what + ", 0)", x.set(1, what, 0), most[what]);
            due.is("userOf(1, " + what + ")", x.userOf(1, what), 0);
            due.is("userOf(0, " + what + ") stays", x.userOf(0, what), 10 * what);
        }
        due.is("told(8)", x.told(8), 10);
        x.run(4);
        due.is("set(0, 0, 0) where it is 0", x.set(0, 0, 0), 0);
        due.is("RUN begins anew", x.told(5), 0);
        due.is("it is a change", x.told(8), 11);
    }

    private static void setOutside() {
        HopMeet x = new HopMeet();
        due.unknown("set(0, 0, 0) with no users", x.set(0, 0, 0));
        x.user(0, 10, 20, 30);
        int[] most = {3, 99, 99, 200};
        for (int what = 0; what <= 3; what++) {
            due.outside("set(0, " + what + ", most and 1)", x.set(0, what, most[what] + 1));
            due.outside("set(0, " + what + ", -1)", x.set(0, what, -1));
            for (int far : FAR) {
                due.outside("set(0, " + what + ", far)", x.set(0, what, far));
            }
        }
        for (int what : new int[] {-1, 4, 5, Integer.MIN_VALUE, Integer.MAX_VALUE}) {
            due.outside("set(0, " + what + ", 0)", x.set(0, what, 0));
            due.unknown("set(1, " + what + ", 0)", x.set(1, what, 0));
            due.unknown("set(-1, " + what + ", -1)", x.set(-1, what, -1));
        }
        for (int what = 0; what <= 3; what++) {
            due.is("userOf(0, " + what + ") after refusals", x.userOf(0, what), 10 * what);
        }
        due.is("told(8) after refusals", x.told(8), 1);
    }

    // Promise 6
    private static void shut() {
        HopMeet x = new HopMeet();
        due.is("shut for all with no users", x.shut(-1, 0, 0, 1), 1);
        x.user(2, 0, 0, 0);
        x.user(2, 0, 0, 0);
        due.is("a spell for all holds for who comes later", x.on(1, 0), -1);
        due.is("shut(0, 0, 10, 2)", x.shut(0, 0, 10, 2), 2);
        due.is("ahead", x.on(0, 9), 0);
        due.is("its first slot", x.on(0, 10), -1);
        due.is("its last slot", x.on(0, 11), -1);
        due.is("behind", x.on(0, 12), 0);
        due.is("not for another", x.on(1, 10), 0);
        due.is("another channel", x.shut(1, 3, 20, 500), 3);
        due.is("is another", x.on(1, 20), 0);
        due.is("the latest and longest", x.shut(1, 0, 1500, 500), 4);
        due.is("1499", x.on(1, 1499), 0);
        due.is("1500", x.on(1, 1500), -1);
        due.is("1999", x.on(1, 1999), -1);
        due.is("2000", x.on(1, 2000), 0);
        x.run(2);
        due.is("the fifth", x.shut(-1, 3, 0, 1), 5);
        due.is("RUN begins anew", x.told(5), 0);
        due.is("told(8)", x.told(8), 7);
    }

    private static void shutWrong() {
        HopMeet x = new HopMeet();
        due.unknown("no such user", x.shut(0, 0, 0, 1));
        x.user(2, 0, 0, 0);
        for (int u : new int[] {1, -2, 5, Integer.MIN_VALUE, Integer.MAX_VALUE}) {
            due.unknown("shut(" + u + ", 0, 0, 1)", x.shut(u, 0, 0, 1));
            due.unknown("shut(" + u + ", 0, -1, 0)", x.shut(u, 0, -1, 0));
        }
        for (int channel : new int[] {-1, 4, 10, Integer.MIN_VALUE, Integer.MAX_VALUE}) {
            due.unknown("shut(0, " + channel + ", 0, 1)", x.shut(0, channel, 0, 1));
            due.unknown("shut(-1, " + channel + ", 1501, 501)", x.shut(-1, channel, 1501, 501));
        }
        for (int slot : new int[] {-1, 1501, Integer.MIN_VALUE, Integer.MAX_VALUE}) {
            due.outside("shut(0, 0, " + slot + ", 1)", x.shut(0, 0, slot, 1));
        }
        for (int many : new int[] {0, -1, 501, Integer.MIN_VALUE, Integer.MAX_VALUE}) {
            due.outside("shut(0, 0, 0, " + many + ")", x.shut(0, 0, 0, many));
        }
        due.is("no spells by refusals", x.told(3), 0);
        for (int s = 1; s <= 8; s++) {
            due.is("spell " + s, x.shut(0, 1, 0, 1), s);
        }
        due.full("a ninth", x.shut(0, 1, 0, 1));
        due.outside("OUTSIDE ahead of FULL", x.shut(0, 1, 0, 0));
        due.unknown("UNKNOWN ahead of FULL", x.shut(0, 4, 0, 1));
        due.is("eight spells", x.told(3), 8);
        due.is("told(8)", x.told(8), 9);
        x.undo();
        due.is("room again", x.shut(-1, 1, 0, 1), 8);
    }

    // Promise 7: 16807, 282475249, 1622650073, 984943658, 1144108930, 470211272, 101027544, 1457850878
    private static void drift() {
        HopMeet x = new HopMeet();
        due.not("drift(1) with no users", x.drift(1));
        due.outside("drift(0) with no users", x.drift(0));
        due.outside("drift(1000000) with no users", x.drift(1000000));
        x.user(3, 1, 2, 3);
        x.user(1, 1, 2, 3);
        x.shut(1, 2, 3, 4);
        x.run(5);
        due.is("drift(1)", x.drift(1), 2);
        toldAll("drift(1)", x, 4, 5, 2, 1, 2, 0, 2, 0, 4);
        int[] first = {3, 49, 73, 8, 7, 0, 1};
        int[] second = {1, 72, 44, 28, 2, 1, 1};
        for (int what = 0; what < 7; what++) {
            due.is("userOf(0, " + what + ")", x.userOf(0, what), first[what]);
            due.is("userOf(1, " + what + ")", x.userOf(1, what), second[what]);
        }
        for (int seed : new int[] {0, -1, 1000000, Integer.MIN_VALUE, Integer.MAX_VALUE}) {
            due.outside("drift(" + seed + ")", x.drift(seed));
        }
        due.is("told(8)", x.told(8), 4);
        due.is("undo()", x.undo(), 3);
        due.is("START is as ahead of it", x.userOf(1, 1), 1);
        due.is("OPEN is as ahead of it", x.userOf(1, 4), 15);
    }

    private static void driftOfFive() {
        for (int seed : new int[] {1, 2, 777, 999999}) {
            HopMeet x = new HopMeet();
            x.channels(10);
            for (int u = 0; u < 5; u++) {
                x.user(2, 0, 0, 0);
            }
            long lot = seed;
            int common = 1023;
            int answer = x.drift(seed);
            for (int u = 0; u < 5; u++) {
                lot = lot * 16807 % 2147483647;
                due.is("OPEN by lots of " + seed, x.userOf(u, 4), lot % 1024);
                common &= (int) (lot % 1024);
                lot = lot * 16807 % 2147483647;
                due.is("START by lots of " + seed, x.userOf(u, 1), lot % 100);
                lot = lot * 16807 % 2147483647;
                due.is("STEP by lots of " + seed, x.userOf(u, 2), lot % 100);
                lot = lot * 16807 % 2147483647;
                due.is("WAKES by lots of " + seed, x.userOf(u, 3), lot % 50);
                due.is("ROW stays", x.userOf(u, 0), 2);
            }
            due.is("drift(" + seed + ")", answer, common);
        }
    }

    // Promise 8
    private static void undo() {
        HopMeet x = new HopMeet();
        due.not("undo() with nothing", x.undo());
        x.user(0, 1, 2, 3);
        x.user(1, 4, 5, 6);
        x.open(1, 6);
        x.set(0, 1, 50);
        x.shut(0, 1, 2, 3);
        x.drift(5);
        due.is("told(8)", x.told(8), 6);
        due.is("undo of drift()", x.undo(), 5);
        due.is("START", x.userOf(0, 1), 50);
        due.is("OPEN", x.userOf(1, 4), 6);
        due.is("spells", x.told(3), 1);
        due.is("undo of shut()", x.undo(), 4);
        due.is("spells", x.told(3), 0);
        due.is("undo of set()", x.undo(), 3);
        due.is("START", x.userOf(0, 1), 1);
        due.is("OPEN", x.userOf(1, 4), 6);
        due.is("undo of open()", x.undo(), 2);
        due.is("OPEN", x.userOf(1, 4), 15);
        due.is("undo of user()", x.undo(), 1);
        due.is("users", x.told(2), 1);
        due.is("undo of the first user()", x.undo(), 0);
        due.is("users", x.told(2), 0);
        due.not("undo() of no more", x.undo());
    }

    private static void undoBringsBack() {
        HopMeet x = new HopMeet();
        x.user(2, 0, 0, 0);
        x.user(2, 0, 0, 0);
        x.shut(-1, 1, 0, 9);
        x.run(5);
        due.is("groups", x.told(6), 1);
        due.is("refused calls are not undone", x.open(0, 99), HopMeet.OUTSIDE);
        due.is("undo()", x.undo(), 2);
        due.is("RUN begins anew by undo(): slots", x.told(5), 0);
        due.is("RUN begins anew by undo(): groups", x.told(6), 2);
        x.run(5);
        x.undo();
        x.undo();
        due.is("groups of nobody", x.told(6), 0);
        x.user(2, 3, 0, 0);
        x.user(2, 3, 0, 0);
        x.run(5);
        x.channels(4);
        due.not("undo() after channels()", x.undo());
        x.user(2, 3, 0, 0);
        x.run(6);
        x.part();
        x.keep(0);
        due.is("run, part, keep are not undone", x.told(8), 1);
        x.goBack(0);
        x.run(6);
        due.not("undo() after goBack()", x.undo());
        due.is("a refused undo() leaves what was run", x.told(5), 6);
    }

    private static void undoneTwelve() {
        HopMeet x = new HopMeet();
        x.user(0, 0, 0, 0);
        for (int v = 1; v <= 11; v++) {
            x.set(0, 1, v);
        }
        due.is("twelve changes", x.told(8), 12);
        x.set(0, 1, 12);
        due.is("a thirteenth", x.told(8), 12);
        x.set(0, 1, 13);
        due.is("a fourteenth", x.told(8), 12);
        for (int left = 11; left >= 0; left--) {
            due.is("undo()", x.undo(), left);
            due.is("START", x.userOf(0, 1), left + 1);
        }
        due.not("the oldest are lost", x.undo());
        due.is("START stays", x.userOf(0, 1), 1);
        for (int v = 20; v < 60; v++) {
            x.set(0, 1, v);
        }
        due.is("undo()", x.undo(), 11);
        due.is("undo()", x.undo(), 10);
        x.set(0, 1, 99);
        due.is("told(8)", x.told(8), 11);
        due.is("undo()", x.undo(), 10);
        due.is("START", x.userOf(0, 1), 57);
    }

    // Promise 9
    private static void told() {
        HopMeet x = new HopMeet();
        for (int what : new int[] {-1, 9, Integer.MIN_VALUE, Integer.MAX_VALUE}) {
            due.outside("told(" + what + ")", x.told(what));
        }
        x.channels(6);
        x.user(2, 1, 0, 0);
        toldAll("one user is all", x, 6, 7, 1, 0, 63, 0, 1, 1, 1);
        x.user(2, 1, 0, 0);
        x.user(2, 2, 0, 0);
        toldAll("three users", x, 6, 7, 3, 0, 63, 0, 3, 0, 3);
        x.open(0, 42);
        x.open(2, 56);
        toldAll("COMMON", x, 6, 7, 3, 0, 40, 0, 3, 0, 5);
        x.open(1, 7);
        due.is("none in COMMON", x.told(4), 0);
        x.undo();
        x.open(0, 63);
        x.open(2, 63);
        x.run(9);
        toldAll("run", x, 6, 7, 3, 0, 63, 9, 2, 0, 7);
        x.set(2, 1, 7);
        x.run(1);
        toldAll("merged", x, 6, 7, 3, 0, 63, 1, 1, 1, 8);
    }

    // Promise 10
    private static void userOf() {
        HopMeet x = new HopMeet();
        due.unknown("userOf(0, 0) with no users", x.userOf(0, 0));
        x.user(2, 1, 3, 0);
        x.user(2, 2, 4, 0);
        x.user(2, 5, 5, 2);
        for (int what : new int[] {-1, 7, Integer.MIN_VALUE, Integer.MAX_VALUE}) {
            due.outside("userOf(0, " + what + ")", x.userOf(0, what));
            due.unknown("userOf(3, " + what + ")", x.userOf(3, what));
        }
        for (int u : new int[] {-1, 3, 5, Integer.MIN_VALUE, Integer.MAX_VALUE}) {
            due.unknown("userOf(" + u + ", 0)", x.userOf(u, 0));
            due.unknown("userOf(" + u + ", 5)", x.userOf(u, 5));
            due.unknown("userOf(" + u + ", 6)", x.userOf(u, 6));
        }
        due.is("at first each alone", x.userOf(2, 5), 2);
        due.is("at first each alone", x.userOf(2, 6), 1);
        x.run(3);
        due.is("least of the group of 2", x.userOf(2, 5), 0);
        due.is("size of the group of 2", x.userOf(2, 6), 2);
        due.is("size of the group of 0", x.userOf(0, 6), 2);
        due.is("least of the group of 1", x.userOf(1, 5), 1);
        due.is("size of the group of 1", x.userOf(1, 6), 1);
        int[] want = {2, 5, 5, 2, 15};
        for (int what = 0; what < want.length; what++) {
            due.is("userOf(2, " + what + ")", x.userOf(2, what), want[what]);
        }
    }
}
