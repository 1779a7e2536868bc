/** Sentences of "What it is", of the head of "Terms" and of its first part: refusals, channels, users, rows, spells. */
final class SentencesOfTerms {
    private final Sentences s;

    SentencesOfTerms(Sentences sentences) {
        s = sentences;
    }

    void all() {
        calls();
        numbers();
        sets();
        none();
        orderOfRefusals();
        unknownOnes();
        outsideOnes();
        notNow();
        farBelow();
        changesNothing();
        channels();
        prime();
        users();
        boundsOfUsers();
        clock();
        jump();
        rowOfJumps();
        jumpsGrow();
        staysAfterJumps();
        leftOverByChannels();
        otherRows();
        isOn();
        nowhere();
        spells();
        spellsFor();
    }

    private void says(String words) {
        s.says("Terms", words);
    }

    private static HopMeet waiting(int... starts) {
        HopMeet x = new HopMeet();
        for (int start : starts) {
            x.user(2, start, 0, 0);
        }
        return x;
    }

    /** An object of so many channels with one user. */
    private static HopMeet one(int channels, int row, int start, int step) {
        HopMeet x = new HopMeet();
        x.channels(channels);
        x.user(row, start, step, 0);
        return x;
    }

    private void points(HopMeet x, int from, int... want) {
        for (int i = 0; i < want.length; i++) {
            s.is("pointsAt(0, " + (from + i) + ")", x.pointsAt(0, from + i), want[i]);
        }
    }

    private void calls() {
        s.says("What it is", "An object is used for at most 512 calls after it has been made");
        HopMeet x = new HopMeet();
        x.user(1, 0, 0, 0);
        for (int call = 2; call < 511; call++) {
            x.set(0, 1, call % 100);
        }
        s.is("call 511: userOf(0, 1)", x.userOf(0, 1), 10);
        s.is("call 512: undo()", x.undo(), 11);
    }

    private void numbers() {
        s.saysOfItself("Terms", "Words in capitals are told where they come first.");

        says("All numbers are whole; / cuts towards 0.");
        // N 2, P 3: k is c / 9; J is one more when k / 3 is, which is seen where it stays
        HopMeet x = one(2, 0, 1, 0);
        s.is("pointsAt(0, 8): c / 9 is 0", x.pointsAt(0, 8), 1);
        s.is("pointsAt(0, 9): c / 9 is 1", x.pointsAt(0, 9), 0);
        s.is("pointsAt(0, 26): k / 3 of 2 is 0", x.pointsAt(0, 26), 1);
        s.is("pointsAt(0, 33): k / 3 of 3 is 1", x.pointsAt(0, 33), 0);

        says("What has a number has it from 0 on, as it comes.");
        x = new HopMeet();
        for (int u = 0; u < 5; u++) {
            s.is("user " + u, x.user(1, u, 0, 0), u);
        }
        for (int u = 0; u < 5; u++) {
            s.is("userOf(" + u + ", 1)", x.userOf(u, 1), u);
        }
        s.is("CHANNEL 0", x.shut(-1, 0, 0, 1), 1);
        s.is("IMAGE 0", x.keep(0), 5);
        s.is("IMAGE 1", x.keep(1), 5);
    }

    private void sets() {
        says("A SET is a whole number, bit k for k (of CHANNELS, if nothing else is told).");
        for (int n = 2; n <= 10; n++) {
            HopMeet x = one(n, 2, 0, 0);
            s.is("all of " + n, x.userOf(0, 4), (1 << n) - 1);
            for (int k = 0; k < n; k++) {
                x.open(0, 1 << k);
                s.is("only bit " + k + " of " + n + ": on(0, 0)", x.on(0, 0), k);
                s.is("only bit " + k + " of " + n + ": COMMON", x.told(4), 1 << k);
            }
        }
    }

    private void none() {
        says("NONE is -1.");
        HopMeet x = waiting(0, 1);
        s.is("NONE", HopMeet.NONE, -1);
        s.is("first(0, 1) of two that never meet", x.first(0, 1), -1);
        s.is("shut(-1, 0, 0, 1) is for all", x.shut(-1, 0, 0, 1), 1);
        s.is("on(0, 0) of one that is nowhere", x.on(0, 0), -1);
    }

    private void orderOfRefusals() {
        says("REFUSALS, of several the first in this order: UNKNOWN");
        HopMeet x = waiting(0, 0, 0, 0, 0);
        for (int i = 0; i < 8; i++) {
            x.shut(-1, 3, 1500, 1);
        }
        s.unknown("shut: no such USER ahead of OUTSIDE and FULL", x.shut(5, 0, 1501, 501));
        s.unknown("shut: no such USER ahead of FULL", x.shut(5, 0, 0, 1));
        s.unknown("shut: no such CHANNEL ahead of OUTSIDE and FULL", x.shut(-1, 4, -1, 0));
        s.unknown("shut: no such CHANNEL ahead of FULL", x.shut(-1, 4, 0, 1));
        s.outside("shut: OUTSIDE ahead of FULL", x.shut(-1, 0, 1501, 1));
        s.outside("user: OUTSIDE ahead of FULL", x.user(4, 0, 0, 0));
        s.unknown("open: UNKNOWN ahead of OUTSIDE", x.open(5, 16));
        s.unknown("set: UNKNOWN ahead of OUTSIDE", x.set(5, 4, -1));
        s.unknown("userOf: UNKNOWN ahead of OUTSIDE", x.userOf(5, 7));
        s.unknown("pointsAt: UNKNOWN ahead of OUTSIDE", x.pointsAt(5, 3001));
        s.unknown("on: UNKNOWN ahead of OUTSIDE", x.on(5, 3001));
        s.unknown("why: UNKNOWN ahead of OUTSIDE", x.why(5, 3001));
        s.unknown("worst: UNKNOWN ahead of OUTSIDE", x.worst(0, 0, 201));
        s.unknown("bound: UNKNOWN ahead of OUTSIDE", x.bound(0, 5, 201, 1501));
        s.unknown("together: UNKNOWN ahead of OUTSIDE", x.together(5, 0, 1501));
        s.unknown("even: UNKNOWN ahead of OUTSIDE", x.even(5, 0));
        s.unknown("goBack: UNKNOWN ahead of NOT", x.goBack(2));
        HopMeet nobody = new HopMeet();
        s.outside("drift: OUTSIDE ahead of NOT", nobody.drift(0));
        s.outside("run: OUTSIDE ahead of NOT", nobody.run(0));
        for (int i = 0; i < 15; i++) {
            x.run(200);
        }
        s.outside("run: OUTSIDE ahead of FULL", x.run(201));
    }

    private void unknownOnes() {
        says("UNKNOWN (a USER, CHANNEL, IMAGE that there is not;");
        HopMeet x = waiting(0, 1);
        for (int u : new int[] {-1, 2, 5, Integer.MIN_VALUE, Integer.MAX_VALUE}) {
            s.unknown("userOf(" + u + ", 0)", x.userOf(u, 0));
        }
        for (int channel : new int[] {-1, 4, 10, Integer.MIN_VALUE, Integer.MAX_VALUE}) {
            s.unknown("shut(-1, " + channel + ", 0, 1)", x.shut(-1, channel, 0, 1));
        }
        for (int i : new int[] {-1, 2, Integer.MIN_VALUE, Integer.MAX_VALUE}) {
            s.unknown("keep(" + i + ")", x.keep(i));
        }

        says("one twice, where two are asked),");
        for (int u = 0; u < 2; u++) {
            s.unknown("first of one twice", x.first(u, u));
            s.unknown("worst of one twice", x.worst(u, u, 0));
            s.unknown("bound of one twice", x.bound(u, u, 0, 0));
            s.unknown("together of one twice", x.together(u, u, 0));
        }
    }

    private void outsideOnes() {
        says("OUTSIDE (another number out of its bounds),");
        HopMeet x = waiting(0, 1);
        for (int far : new int[] {Integer.MIN_VALUE, Integer.MIN_VALUE + 1, -1, 1000000, Integer.MAX_VALUE}) {
            s.outside("channels(" + far + ")", x.channels(far));
            s.outside("user, ROW " + far, x.user(far, 0, 0, 0));
            s.outside("open(0, " + far + ")", x.open(0, far));
            s.outside("set(0, " + far + ", 0)", x.set(0, far, 0));
            s.outside("set(0, 3, " + far + ")", x.set(0, 3, far));
            s.outside("shut(0, 0, " + far + ", 1)", x.shut(0, 0, far, 1));
            s.outside("shut(0, 0, 0, " + far + ")", x.shut(0, 0, 0, far));
            s.outside("drift(" + far + ")", x.drift(far));
            s.outside("told(" + far + ")", x.told(far));
            s.outside("userOf(0, " + far + ")", x.userOf(0, far));
            s.outside("on(0, " + far + ")", x.on(0, far));
            s.outside("worst(0, 1, " + far + ")", x.worst(0, 1, far));
            s.outside("bound(0, 1, 0, " + far + ")", x.bound(0, 1, 0, far));
            s.outside("together(0, 1, " + far + ")", x.together(0, 1, far));
            s.outside("even(0, " + far + ")", x.even(0, far));
            s.outside("run(" + far + ")", x.run(far));
        }
    }

    private void notNow() {
        says("NOT (not now, as told), FULL.");
        HopMeet x = new HopMeet();
        s.not("undo()", x.undo());
        s.not("drift(1)", x.drift(1));
        s.not("run(1)", x.run(1));
        s.not("merge()", x.merge());
        s.not("goBack(0)", x.goBack(0));
        for (int u = 0; u < 5; u++) {
            x.user(0, 0, 0, 0);
        }
        s.full("a sixth user", x.user(0, 0, 0, 0));
    }

    private void farBelow() {
        says("They are far below all that is counted: -1000000001 and on.");
        s.is("UNKNOWN", HopMeet.UNKNOWN, -1000000001);
        s.is("OUTSIDE", HopMeet.OUTSIDE, -1000000002);
        s.is("NOT", HopMeet.NOT, -1000000003);
        s.is("FULL", HopMeet.FULL, -1000000004);
    }

    private void changesNothing() {
        says("What is refused changes nothing.");
        HopMeet x = waiting(0, 0, 1);
        x.open(2, 5);
        x.shut(0, 1, 2, 3);
        x.keep(0);
        x.run(7);
        int refused = 0;
        int[] answers = {x.channels(1), x.channels(11), x.user(0, 0, 0, 201), x.open(0, 16), x.open(3, 1), x.set(0, 0, 4),
            x.set(0, 4, 0), x.set(3, 0, 0), x.shut(3, 0, 0, 1), x.shut(0, 4, 0, 1), x.shut(0, 0, 0, 501), x.drift(0),
            x.run(0), x.run(201), x.keep(2), x.goBack(1), x.goBack(2)};
        for (int answer : answers) {
            refused += answer <= HopMeet.UNKNOWN ? 1 : 0;
        }
        s.is("refused", refused, answers.length);
        int[] told = {4, 5, 3, 1, 5, 7, 2, 0, 5};
        for (int what = 0; what < told.length; what++) {
            s.is("told(" + what + ")", x.told(what), told[what]);
        }
        s.is("START of 0", x.userOf(0, 1), 0);
        s.is("OPEN of 2", x.userOf(2, 4), 5);
        s.is("undo()", x.undo(), 4);
        s.is("spells: the last change was shut()", x.told(3), 0);
        s.is("goBack(0)", x.goBack(0), 3);
        s.is("spells of the image", x.told(3), 1);
    }

    private void channels() {
        says("CHANNELS 0 .. N less 1");
        for (int n = 2; n <= 10; n++) {
            HopMeet x = one(n, 1, 0, 0);
            s.is("the last of " + n, x.pointsAt(0, n - 1), n - 1);
            s.is("and 0 again", x.pointsAt(0, n), 0);
            s.is("shut 0", x.shut(-1, 0, 0, 1), 1);
            s.is("shut the last", x.shut(-1, n - 1, 0, 1), 2);
            s.unknown("shut -1", x.shut(-1, -1, 0, 1));
            s.unknown("shut N", x.shut(-1, n, 0, 1));
        }

        says("N 2 .. 10");
        HopMeet x = new HopMeet();
        s.outside("channels(1)", x.channels(1));
        s.is("channels(2)", x.channels(2), 3);
        s.is("N", x.told(0), 2);
        s.is("channels(10)", x.channels(10), 11);
        s.is("N", x.told(0), 10);
        s.outside("channels(11)", x.channels(11));
        s.is("N", x.told(0), 10);

        says("4 at first");
        s.is("N", new HopMeet().told(0), 4);
    }

    private void prime() {
        says("PRIME: the least prime above N.");
        int[] above = {3, 5, 5, 7, 7, 11, 11, 11, 11};
        HopMeet x = new HopMeet();
        s.is("at first", x.told(1), 5);
        for (int n = 2; n <= 10; n++) {
            x.channels(n);
            s.is("above " + n, x.told(1), above[n - 2]);
        }
    }

    private void users() {
        says("USERS (5 at most;");
        HopMeet x = waiting(0, 1, 2, 3);
        s.is("the fifth", x.user(0, 0, 0, 0), 4);
        s.full("a sixth", x.user(0, 0, 0, 0));
        s.is("USERS", x.told(2), 5);
        x.undo();
        s.is("there is room again", x.user(0, 0, 0, 0), 4);

        says("none at first):");
        x = new HopMeet();
        s.is("USERS", x.told(2), 0);
        s.unknown("userOf(0, 0)", x.userOf(0, 0));

        says("OPEN, a SET of CHANNELS (none, too);");
        x = waiting(0);
        s.is("open(0, 0)", x.open(0, 0), 15);
        s.is("OPEN", x.userOf(0, 4), 0);
        s.is("open(0, 15)", x.open(0, 15), 0);
        s.outside("open(0, 16)", x.open(0, 16));
        s.outside("open(0, -1)", x.open(0, -1));
        s.is("OPEN", x.userOf(0, 4), 15);
    }

    private void boundsOfUsers() {
        says("a ROW (0 .. 3),");
        bounds(0, 3);
        says("START (0 .. 99),");
        bounds(1, 99);
        says("STEP (0 .. 99),");
        bounds(2, 99);
        says("WAKES (0 .. 200):");
        bounds(3, 200);
    }

    private void bounds(int what, int most) {
        HopMeet x = new HopMeet();
        s.is("the least", userWith(x, what, 0), 0);
        s.is("the greatest", userWith(x, what, most), 1);
        s.is("it has the least", x.userOf(0, what), 0);
        s.is("it has the greatest", x.userOf(1, what), most);
        s.outside("one less", userWith(x, what, -1));
        s.outside("one more", userWith(x, what, most + 1));
        s.is("set to the greatest", x.set(0, what, most), 0);
        s.is("set to the least", x.set(0, what, 0), most);
        s.outside("set to one less", x.set(0, what, -1));
        s.outside("set to one more", x.set(0, what, most + 1));
        s.is("it has what it had", x.userOf(0, what), 0);
    }

    private static int userWith(HopMeet x, int what, int v) {
        int[] of = {1, 1, 1, 1};
        of[what] = v;
        return x.user(of[0], of[1], of[2], of[3]);
    }

    private void clock() {
        says("its CLOCK at slot t is t less WAKES;");
        HopMeet x = one(4, 1, 0, 0);
        points(x, 0, 0, 1, 2, 3, 0);
        x.set(0, 3, 7);
        points(x, 7, 0, 1, 2, 3, 0);
        x.set(0, 3, 200);
        points(x, 200, 0, 1, 2, 3, 0);

        says("before that it is nowhere.");
        s.is("on(0, 0)", x.on(0, 0), -1);
        s.is("on(0, 199)", x.on(0, 199), -1);
        s.is("on(0, 200)", x.on(0, 200), 0);
        x.set(0, 3, 1);
        s.is("WAKES 1: on(0, 0)", x.on(0, 0), -1);
        s.is("WAKES 1: on(0, 1)", x.on(0, 1), 0);
        x.set(0, 0, 2);
        s.is("WAKES 1, one that waits: on(0, 0)", x.on(0, 0), -1);
        s.is("WAKES 1, one that waits: pointsAt(0, 0)", x.pointsAt(0, 0), -1);
        x.set(0, 3, 0);
        s.is("WAKES 0: on(0, 0)", x.on(0, 0), 0);
    }

    private void jump() {
        says("POINTS AT, by its CLOCK c, S = START, P = PRIME, J = 1 and what is left of STEP by N:");
        // by ROW 3 from START 0 on: (c times J) by 5, left over by 4
        points(one(4, 3, 0, 0), 0, 0, 1, 2, 3, 0, 0);
        points(one(4, 3, 0, 3), 0, 0, 0, 3, 2, 1, 0);
        points(one(4, 3, 0, 4), 0, 0, 1, 2, 3, 0, 0);
        points(one(4, 3, 0, 99), 0, 0, 0, 3, 2, 1, 0);
        points(one(4, 3, 99, 97), 0, 0, 1, 3, 0, 2, 0);
    }

    private void rowOfJumps() {
        says("ROW 0 (jumps and stays): k is c / (3 P), r what is left of c by 3 P;");
        // N 4, P 5, S 3, J 1
        HopMeet x = one(4, 0, 3, 0);
        points(x, 0, 3, 0, 0, 1, 2);
        points(x, 13, 1, 1);
        points(x, 15, 0, 0, 1, 2, 3);
        points(x, 28, 1, 1);
        points(x, 30, 0, 1, 2, 3, 0);
    }

    private void jumpsGrow() {
        says("J more by k / P, as if from 1 to N and round again (what is left of (J less 1 and k / P) by N, and 1);");
        // N 2, P 3: it stays on J for three slots of nine, J is one more each 27 slots
        HopMeet x = one(2, 0, 0, 0);
        points(x, 24, 1, 1, 1);
        points(x, 33, 0, 0, 0);
        points(x, 51, 0, 0, 0);
        points(x, 60, 1, 1, 1);
        x = one(2, 0, 0, 1);
        points(x, 24, 0, 0, 0);
        points(x, 33, 1, 1, 1);
        // N 10, P 11: J is N for 363 slots, then 1
        x = one(10, 0, 0, 9);
        points(x, 352, 0, 0);
        s.is("stays on 10 left over by 10", x.pointsAt(0, 362), 0);
        s.is("J is 1: (11 and 1) by 11", x.pointsAt(0, 364), 1);
        s.is("stays on 1", x.pointsAt(0, 385), 1);
    }

    private void staysAfterJumps() {
        says("if r is less than 2 P: what is left of (S and k and r times J) by P, else J.");
        // N 4, P 5, J 3: 0 3 6 9 12 .. 27 by 5, then J
        HopMeet x = one(4, 0, 0, 2);
        points(x, 0, 0, 3, 1, 0, 2, 0, 3, 1, 0, 2);
        points(x, 10, 3, 3, 3, 3, 3);
        points(x, 15, 1, 0, 2);
        x = one(4, 0, 99, 2);
        points(x, 0, 0, 2, 0, 3);
        points(x, 9, 1, 3);
    }

    private void leftOverByChannels() {
        says("What comes is left over by N.");
        HopMeet x = one(7, 0, 0, 6);
        // N 7, P 11, J 7: 0 7 14 21 28 35 by 11 are 0 7 3 10 6 2
        points(x, 0, 0, 0, 3, 3, 6, 2);
        points(x, 21, 4, 0, 0);
    }

    private void otherRows() {
        says("ROW 1 (sweeps): what is left of (S and c) by N.");
        points(one(4, 1, 0, 3), 0, 0, 1, 2, 3, 0);
        points(one(4, 1, 99, 3), 0, 3, 0, 1, 2, 3);
        s.is("pointsAt(0, 3000)", one(10, 1, 99, 3).pointsAt(0, 3000), 9);

        says("ROW 2 (waits): what is left of S by N.");
        points(one(4, 2, 0, 3), 0, 0, 0, 0);
        points(one(4, 2, 3, 3), 0, 3, 3, 3);
        points(one(4, 2, 4, 3), 0, 0, 0, 0);
        s.is("pointsAt(0, 3000)", one(10, 2, 99, 3).pointsAt(0, 3000), 9);

        says("ROW 3 (by a clock): what is left of (S and c times J) by P, left over by N.");
        points(one(4, 3, 4, 0), 0, 0, 0, 1, 2, 3, 0);
        // N 7, P 11, J 2: 5 7 9 0 2 4 6 8 10 1 3 5
        points(one(7, 3, 5, 1), 0, 5, 0, 2, 0, 2, 4, 6, 1, 3, 1, 3, 5);
        // 99 and 3000 times 10 is 30099, 3 by 11
        s.is("pointsAt(0, 3000)", one(10, 3, 99, 99).pointsAt(0, 3000), 3);
    }

    private void isOn() {
        says("IS ON: the CHANNEL it POINTS AT, if that is OPEN;");
        int set = 1 << 2 | 1 << 5 | 1 << 9;
        for (int start : new int[] {2, 5, 9}) {
            HopMeet x = one(10, 2, start, 0);
            x.open(0, set);
            s.is("waits on " + start + ": on(0, 0)", x.on(0, 0), start);
        }

        says("else, of its OPEN ones, rising, that with the number: what it POINTS AT, left over by how many they are.");
        int[] others = {0, 1, 3, 4, 6, 7, 8};
        int[] want = {2, 5, 2, 5, 2, 5, 9};
        for (int i = 0; i < others.length; i++) {
            HopMeet x = one(10, 2, others[i], 0);
            x.open(0, set);
            s.is("points at " + others[i] + ": on(0, 0)", x.on(0, 0), want[i]);
            x.open(0, 1 << 9);
            s.is("points at " + others[i] + ", only 9 is OPEN: on(0, 0)", x.on(0, 0), 9);
        }
        for (int start = 0; start < 10; start++) {
            HopMeet x = one(10, 2, start, 0);
            x.open(0, 1023 - (1 << start));
            s.is("all but " + start + " are OPEN: on(0, 0)", x.on(0, 0), start == 9 ? 0 : start + 1);
        }
    }

    private void nowhere() {
        says("It is NOWHERE: 1 it does not WAKE yet,");
        HopMeet x = waiting(0);
        x.set(0, 3, 5);
        x.shut(0, 0, 0, 9);
        s.is("why(0, 4), and it is shut", x.why(0, 4), 1);
        x.open(0, 0);
        s.is("why(0, 4), and none is open", x.why(0, 4), 1);
        s.is("on(0, 4)", x.on(0, 4), -1);

        says("2 none is OPEN,");
        s.is("why(0, 5), and all it had is shut", x.why(0, 5), 2);
        s.is("on(0, 5)", x.on(0, 5), -1);
        s.is("why(0, 3000)", x.why(0, 3000), 2);

        says("3 the CHANNEL it would be ON is SHUT then.");
        x = waiting(0);
        x.open(0, 2);
        x.shut(0, 0, 10, 5);
        s.is("the one it points at: why(0, 10)", x.why(0, 10), 0);
        x.shut(0, 1, 10, 5);
        s.is("why(0, 9)", x.why(0, 9), 0);
        s.is("why(0, 10)", x.why(0, 10), 3);
        s.is("on(0, 10)", x.on(0, 10), -1);
        s.is("why(0, 14)", x.why(0, 14), 3);
        s.is("why(0, 15)", x.why(0, 15), 0);
        s.is("on(0, 15)", x.on(0, 15), 1);
    }

    private void spells() {
        says("SHUT (8 spells at most):");
        HopMeet x = waiting(0);
        for (int i = 1; i <= 8; i++) {
            s.is("spell " + i, x.shut(-1, 0, 100 * i, 50), i);
        }
        s.full("a ninth", x.shut(-1, 0, 0, 1));
        s.is("spells", x.told(3), 8);
        s.is("the ninth shuts nothing: on(0, 0)", x.on(0, 0), 0);
        s.is("the first still shuts: on(0, 100)", x.on(0, 100), -1);
        s.is("the eighth shuts: on(0, 849)", x.on(0, 849), -1);

        says("a CHANNEL from a slot on for so many slots (1 .. 500),");
        x = waiting(0);
        s.outside("0 slots", x.shut(0, 0, 9, 0));
        s.outside("501 slots", x.shut(0, 0, 9, 501));
        s.is("one slot", x.shut(0, 0, 9, 1), 1);
        s.is("500 slots", x.shut(0, 0, 20, 500), 2);
        int[] slots = {8, 9, 10, 19, 20, 519, 520};
        int[] why = {0, 3, 0, 0, 3, 3, 0};
        for (int i = 0; i < slots.length; i++) {
            s.is("why(0, " + slots[i] + ")", x.why(0, slots[i]), why[i]);
        }
        x = waiting(0);
        x.shut(0, 0, 0, 1);
        s.is("from slot 0 on: why(0, 0)", x.why(0, 0), 3);
        s.is("and no more: why(0, 1)", x.why(0, 1), 0);
        x.set(0, 3, 1);
        x.shut(0, 0, 7, 1);
        s.is("slots are not told by the CLOCK: why(0, 7)", x.why(0, 7), 3);
        s.is("slots are not told by the CLOCK: why(0, 8)", x.why(0, 8), 0);
    }

    private void spellsFor() {
        says("for a USER, or for all (NONE).");
        HopMeet x = waiting(0, 0);
        x.shut(0, 0, 10, 1);
        s.is("for 0: why(0, 10)", x.why(0, 10), 3);
        s.is("for 0: why(1, 10)", x.why(1, 10), 0);
        x.shut(-1, 0, 20, 1);
        s.is("for all: why(0, 20)", x.why(0, 20), 3);
        s.is("for all: why(1, 20)", x.why(1, 20), 3);
        x.user(2, 0, 0, 0);
        s.is("for who comes later, too: why(2, 20)", x.why(2, 20), 3);
        s.is("but not what is for 0: why(2, 10)", x.why(2, 10), 0);
    }
}
