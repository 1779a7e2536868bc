/** Sentences of promises 9 to 18: what is told, where one is, when two meet. */
final class SentencesOfQuestions {
    private static final int[] FAR = {Integer.MIN_VALUE, -1000000001, Integer.MAX_VALUE};

    private final Sentences s;

    SentencesOfQuestions(Sentences sentences) {
        s = sentences;
    }

    void all() {
        told();
        toldMerged();
        userOf();
        pointsAt();
        on();
        why();
        first();
        worst();
        bound();
        together();
        even();
    }

    private static HopMeet waiting(int... starts) {
        HopMeet x = new HopMeet();
        for (int start : starts) {
            x.user(2, start, 0, 0);
        }
        return x;
    }

    private static HopMeet sweepAndWait(int start) {
        HopMeet x = new HopMeet();
        x.user(1, 0, 0, 0);
        x.user(2, start, 0, 0);
        return x;
    }

    private void told() {
        s.says("Promise 9", "0 N, 1 PRIME, 2 USERS, 3 spells, 4 COMMON, 5 slots that were RUN, 6 GROUPS,");
        HopMeet x = new HopMeet();
        x.channels(6);
        x.user(2, 1, 0, 0);
        x.user(2, 1, 0, 0);
        x.user(2, 2, 0, 0);
        x.open(1, 42);
        x.shut(-1, 5, 0, 1);
        x.run(9);
        int[] want = {6, 7, 3, 1, 42, 9, 2};
        for (int what = 0; what < want.length; what++) {
            s.is("told(" + what + ")", x.told(what), want[what]);
        }

        s.says("Promise 9", "8 how many can be undone.");
        s.is("five changes", x.told(8), 5);
        x.undo();
        s.is("four", x.told(8), 4);
        for (int i = 0; i < 20; i++) {
            x.set(0, 1, i);
        }
        s.is("twelve at most", x.told(8), 12);
        x.channels(6);
        s.is("none", x.told(8), 0);

        s.says("Promise 9", "OUTSIDE.");
        s.outside("told(-1)", x.told(-1));
        s.outside("told(9)", x.told(9));
        for (int far : FAR) {
            s.outside("told(" + far + ")", x.told(far));
        }
    }

    private void toldMerged() {
        s.says("Promise 9", "7 1 all are MERGED, 0 not (no USERS: 0),");
        HopMeet x = new HopMeet();
        s.is("no USERS", x.told(7), 0);
        x.user(2, 0, 0, 0);
        s.is("one USER", x.told(7), 1);
        x.user(2, 0, 0, 0);
        s.is("two, not RUN", x.told(7), 0);
        x.run(1);
        s.is("two, RUN", x.told(7), 1);
        x.part();
        s.is("two, apart again", x.told(7), 0);
        x.undo();
        x.undo();
        s.is("no USERS again", x.told(7), 0);
    }

    private void userOf() {
        s.says("Promise 10", "Of a USER: what = 0 ROW, 1 START, 2 STEP, 3 WAKES, 4 OPEN, 5 the least USER of its GROUP, 6 how many USERS that has.");
        HopMeet x = new HopMeet();
        x.user(2, 1, 0, 0);
        x.user(2, 2, 0, 0);
        x.user(2, 6, 99, 0);
        x.user(3, 98, 97, 200);
        x.open(3, 5);
        x.run(200);
        int[][] want = {{2, 1, 0, 0, 15, 0, 1}, {2, 2, 0, 0, 15, 1, 2}, {2, 6, 99, 0, 15, 1, 2}, {3, 98, 97, 200, 5, 3, 1}};
        for (int u = 0; u < 4; u++) {
            for (int what = 0; what < 7; what++) {
                s.is("userOf(" + u + ", " + what + ")", x.userOf(u, what), want[u][what]);
            }
        }

        s.says("Promise 10", "UNKNOWN, OUTSIDE.");
        s.outside("userOf(0, -1)", x.userOf(0, -1));
        s.outside("userOf(0, 7)", x.userOf(0, 7));
        for (int what = -1; what <= 7; what++) {
            s.unknown("userOf(-1, " + what + ")", x.userOf(-1, what));
            s.unknown("userOf(4, " + what + ")", x.userOf(4, what));
            s.unknown("userOf(0, " + what + ") of no USERS", new HopMeet().userOf(0, what));
        }
        for (int far : FAR) {
            s.unknown("userOf(" + far + ", 5)", x.userOf(far, 5));
            s.outside("userOf(0, " + far + ")", x.userOf(0, far));
        }
    }

    private void pointsAt() {
        s.says("Promise 11", "What a USER POINTS AT at slot t (0 .. 3000);");
        HopMeet x = sweepAndWait(3);
        s.is("pointsAt(0, 0)", x.pointsAt(0, 0), 0);
        s.is("pointsAt(0, 2999)", x.pointsAt(0, 2999), 3);
        s.is("pointsAt(0, 3000)", x.pointsAt(0, 3000), 0);
        x.open(0, 0);
        s.is("what is not OPEN", x.pointsAt(0, 3), 3);
        x.shut(1, 3, 0, 9);
        s.is("what is SHUT", x.pointsAt(1, 0), 3);

        s.says("Promise 11", "NONE: it does not WAKE yet.");
        x.set(0, 3, 200);
        s.is("pointsAt(0, 0)", x.pointsAt(0, 0), -1);
        s.is("pointsAt(0, 199)", x.pointsAt(0, 199), -1);
        s.is("pointsAt(0, 200)", x.pointsAt(0, 200), 0);
        x.set(1, 3, 200);
        s.is("one that waits on 3: pointsAt(1, 199)", x.pointsAt(1, 199), -1);
        s.is("one that waits on 3: pointsAt(1, 200)", x.pointsAt(1, 200), 3);

        s.says("Promise 11", "UNKNOWN, OUTSIDE.");
        s.outside("pointsAt(0, -1)", x.pointsAt(0, -1));
        s.outside("pointsAt(0, 3001)", x.pointsAt(0, 3001));
        s.unknown("pointsAt(-1, 0)", x.pointsAt(-1, 0));
        s.unknown("pointsAt(2, 0)", x.pointsAt(2, 0));
        s.unknown("pointsAt(2, 3001)", x.pointsAt(2, 3001));
        for (int far : FAR) {
            s.outside("pointsAt(0, " + far + ")", x.pointsAt(0, far));
            s.unknown("pointsAt(" + far + ", 0)", x.pointsAt(far, 0));
        }
    }

    private void on() {
        s.says("Promise 12", "IS ON at slot t (0 .. 3000);");
        HopMeet x = sweepAndWait(3);
        s.is("on(0, 0)", x.on(0, 0), 0);
        s.is("on(0, 3000)", x.on(0, 3000), 0);
        s.is("on(1, 3000)", x.on(1, 3000), 3);
        x.open(1, 6);
        s.is("3 left over by two OPEN ones is the second", x.on(1, 3000), 2);

        s.says("Promise 12", "NONE: NOWHERE.");
        x.shut(1, 2, 1500, 500);
        s.is("on(1, 1499)", x.on(1, 1499), 2);
        s.is("SHUT: on(1, 1500)", x.on(1, 1500), -1);
        s.is("SHUT: on(1, 1999)", x.on(1, 1999), -1);
        s.is("on(1, 2000)", x.on(1, 2000), 2);
        x.set(1, 3, 7);
        s.is("not awake: on(1, 6)", x.on(1, 6), -1);
        s.is("on(1, 7)", x.on(1, 7), 2);
        x.open(1, 0);
        s.is("none OPEN: on(1, 7)", x.on(1, 7), -1);

        s.says("Promise 12", "UNKNOWN, OUTSIDE.");
        s.outside("on(0, -1)", x.on(0, -1));
        s.outside("on(0, 3001)", x.on(0, 3001));
        s.unknown("on(-1, 0)", x.on(-1, 0));
        s.unknown("on(2, 0)", x.on(2, 0));
        s.unknown("on(2, -1)", x.on(2, -1));
        for (int far : FAR) {
            s.outside("on(0, " + far + ")", x.on(0, far));
            s.unknown("on(" + far + ", 0)", x.on(far, 0));
        }
    }

    private void why() {
        s.says("Promise 13", "Why it is NOWHERE at slot t: 1 .. 3;");
        HopMeet x = waiting(0);
        x.set(0, 3, 10);
        x.shut(0, 0, 5, 10);
        s.is("not awake: why(0, 0)", x.why(0, 0), 1);
        s.is("not awake, SHUT: why(0, 9)", x.why(0, 9), 1);
        s.is("SHUT: why(0, 10)", x.why(0, 10), 3);
        s.is("SHUT: why(0, 14)", x.why(0, 14), 3);
        x.open(0, 0);
        s.is("not awake, none OPEN: why(0, 9)", x.why(0, 9), 1);
        s.is("none OPEN: why(0, 10)", x.why(0, 10), 2);
        s.is("none OPEN: why(0, 3000)", x.why(0, 3000), 2);

        s.says("Promise 13", "0: it is not.");
        x.open(0, 1);
        s.is("why(0, 15)", x.why(0, 15), 0);
        s.is("why(0, 3000)", x.why(0, 3000), 0);
        x.set(0, 3, 0);
        s.is("why(0, 0)", x.why(0, 0), 0);

        s.says("Promise 13", "UNKNOWN, OUTSIDE.");
        s.outside("why(0, -1)", x.why(0, -1));
        s.outside("why(0, 3001)", x.why(0, 3001));
        s.unknown("why(-1, 0)", x.why(-1, 0));
        s.unknown("why(1, 0)", x.why(1, 0));
        s.unknown("why(1, 3001)", x.why(1, 3001));
        for (int far : FAR) {
            s.outside("why(0, " + far + ")", x.why(0, far));
            s.unknown("why(" + far + ", 0)", x.why(far, 0));
        }
    }

    private void first() {
        s.says("Promise 14", "FIRST; NONE.");
        HopMeet x = sweepAndWait(2);
        s.is("first(0, 1)", x.first(0, 1), 2);
        s.is("first(1, 0)", x.first(1, 0), 2);
        x.set(0, 3, 200);
        s.is("one WAKES at 200", x.first(0, 1), 202);
        x.set(1, 3, 199);
        s.is("the other at 199", x.first(0, 1), 202);
        x.shut(1, 2, 202, 1);
        s.is("SHUT for one then", x.first(0, 1), 206);
        x.open(0, 8);
        s.is("never", x.first(0, 1), -1);

        s.says("Promise 14", "UNKNOWN.");
        twoUnknown(x, (y, u, v) -> y.first(u, v));
    }

    private interface Asked {
        int of(HopMeet y, int u, int v);
    }

    private void twoUnknown(HopMeet twoUsers, Asked asked) {
        int[][] pairs = {{0, 0}, {1, 1}, {0, 2}, {2, 0}, {-1, 0}, {0, -1}, {2, 2}, {-1, -1}, {Integer.MIN_VALUE, 1}, {1, Integer.MAX_VALUE}};
        for (int[] p : pairs) {
            s.unknown("of " + p[0] + " and " + p[1], asked.of(twoUsers, p[0], p[1]));
        }
        s.unknown("of 0 and 1 of no USERS", asked.of(new HopMeet(), 0, 1));
        s.unknown("of 0 and 1 of one USER", asked.of(waiting(0), 0, 1));
    }

    private void worst() {
        s.says("Promise 15", "WORST of SHIFTS 0 .. d (0 .. 200).");
        HopMeet x = sweepAndWait(1);
        s.is("worst(0, 1, 0)", x.worst(0, 1, 0), 1);
        s.is("worst(0, 1, 1)", x.worst(0, 1, 1), 1);
        s.is("SHIFT d counts: worst(0, 1, 2)", x.worst(0, 1, 2), 3);
        s.is("worst(0, 1, 200)", x.worst(0, 1, 200), 3);
        // N 5, P 7, J 2 from slot 147 on: the first one is on 1 in slot 199, and then not till slot 215
        HopMeet last = new HopMeet();
        last.channels(5);
        last.user(0, 0, 0, 0);
        last.user(2, 1, 0, 0);
        s.is("on(0, 199)", last.on(0, 199), 1);
        s.is("SHIFT 200 is the greatest: worst(0, 1, 199)", last.worst(0, 1, 199), 9);
        s.is("SHIFT 200 is the greatest: worst(0, 1, 200)", last.worst(0, 1, 200), 15);
        s.is("SHIFT 200 is the greatest: bound(0, 1, 199, 14)", last.bound(0, 1, 199, 14), 1);
        s.is("SHIFT 200 is the greatest: bound(0, 1, 200, 14)", last.bound(0, 1, 200, 14), 0);

        s.says("Promise 15", "UNKNOWN, OUTSIDE.");
        s.outside("worst(0, 1, -1)", x.worst(0, 1, -1));
        s.outside("worst(0, 1, 201)", x.worst(0, 1, 201));
        for (int far : FAR) {
            s.outside("worst(0, 1, " + far + ")", x.worst(0, 1, far));
        }
        for (int d : new int[] {0, 200, -1, 201}) {
            twoUnknown(x, (y, u, v) -> y.worst(u, v, d));
        }
    }

    private void bound() {
        s.says("Promise 16", "Whether WORST of SHIFTS 0 .. d is at most b (1, 0).");
        HopMeet x = sweepAndWait(1);
        s.is("1 is at most 0: bound(0, 1, 0, 0)", x.bound(0, 1, 0, 0), 0);
        s.is("1 is at most 1: bound(0, 1, 0, 1)", x.bound(0, 1, 0, 1), 1);
        s.is("SHIFT 2: bound(0, 1, 1, 2)", x.bound(0, 1, 1, 2), 1);
        s.is("SHIFT 2: bound(0, 1, 2, 2)", x.bound(0, 1, 2, 2), 0);
        s.is("bound(0, 1, 2, 3)", x.bound(0, 1, 2, 3), 1);
        s.is("bound(0, 1, 200, 1500)", x.bound(0, 1, 200, 1500), 1);
        s.is("0 is at most 0", waiting(1, 1).bound(0, 1, 200, 0), 1);
        s.is("NEVER is more than 1500", waiting(1, 2).bound(0, 1, 0, 1500), 0);

        s.says("Promise 16", "UNKNOWN, OUTSIDE (b 0 .. 1500).");
        s.outside("b -1", x.bound(0, 1, 0, -1));
        s.outside("b 1501", x.bound(0, 1, 0, 1501));
        s.outside("d -1", x.bound(0, 1, -1, 0));
        s.outside("d 201", x.bound(0, 1, 201, 0));
        for (int far : FAR) {
            s.outside("b " + far, x.bound(0, 1, 0, far));
            s.outside("d " + far, x.bound(0, 1, far, 0));
        }
        for (int wrong : new int[] {0, -1, 1501}) {
            twoUnknown(x, (y, u, v) -> y.bound(u, v, wrong, wrong));
        }
    }

    private void together() {
        s.says("Promise 17", "TOGETHER (n 0 .. 1500).");
        HopMeet x = sweepAndWait(0);
        s.is("together(0, 1, 0)", x.together(0, 1, 0), 0);
        s.is("together(0, 1, 1)", x.together(0, 1, 1), 1);
        s.is("together(0, 1, 4)", x.together(0, 1, 4), 1);
        s.is("together(0, 1, 5)", x.together(0, 1, 5), 2);
        s.is("together(1, 0, 1500)", x.together(1, 0, 1500), 375);
        s.is("all the time", waiting(0, 0).together(0, 1, 1500), 1500);

        s.says("Promise 17", "UNKNOWN, OUTSIDE.");
        s.outside("together(0, 1, -1)", x.together(0, 1, -1));
        s.outside("together(0, 1, 1501)", x.together(0, 1, 1501));
        for (int far : FAR) {
            s.outside("together(0, 1, " + far + ")", x.together(0, 1, far));
        }
        for (int n : new int[] {0, 1500, -1, 1501}) {
            twoUnknown(x, (y, u, v) -> y.together(u, v, n));
        }
    }

    private void even() {
        s.says("Promise 18", "EVEN (n 1 .. 1500);");
        HopMeet x = sweepAndWait(0);
        s.is("even(0, 1)", x.even(0, 1), 1);
        s.is("even(0, 1499)", x.even(0, 1499), 1);
        s.is("even(0, 1500)", x.even(0, 1500), 0);
        s.is("even(1, 1500)", x.even(1, 1500), 1500);

        s.says("Promise 18", "0, if none is OPEN.");
        x.open(1, 0);
        s.is("even(1, 1)", x.even(1, 1), 0);
        s.is("even(1, 1500)", x.even(1, 1500), 0);

        s.says("Promise 18", "UNKNOWN, OUTSIDE.");
        for (int u = 0; u < 2; u++) {
            s.outside("even(" + u + ", 0)", x.even(u, 0));
            s.outside("even(" + u + ", -1)", x.even(u, -1));
            s.outside("even(" + u + ", 1501)", x.even(u, 1501));
        }
        for (int far : FAR) {
            s.outside("even(0, " + far + ")", x.even(0, far));
            s.unknown("even(" + far + ", 1)", x.even(far, 1));
        }
        s.unknown("even(-1, 1)", x.even(-1, 1));
        s.unknown("even(2, 1)", x.even(2, 1));
        s.unknown("even(2, 0)", x.even(2, 0));
        s.unknown("even(0, 1) of no USERS", new HopMeet().even(0, 1));
    }
}
