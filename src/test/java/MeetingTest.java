/** Promises 14 to 18: the first meeting, the worst of all shifts, a bound, how often together, how even. */
public final class MeetingTest {
    private static final Due due = new Due("MeetingTest");

    public static void main(String[] args) {
        first();
        firstWithin();
        worst();
        worstLeavesOut();
        worstNever();
        worstBySteps();
        worstWithin();
        bound();
        together();
        even();
        evenLeavesOut();
        wrongPairs();
        wrongNumbers();
        askingChangesNothing();
        due.end();
    }

    private static HopMeet pair(int rowU, int startU, int rowV, int startV) {
        HopMeet x = new HopMeet();
        x.user(rowU, startU, 0, 0);
        x.user(rowV, startV, 0, 0);
        return x;
    }

    // Promise 14
    private static void first() {
        HopMeet x = pair(2, 0, 1, 1);
        due.is("first(0, 1)", x.first(0, 1), 3);
        due.is("first(1, 0)", x.first(1, 0), 3);
        x.set(0, 3, 4);
        due.is("first(0, 1), the first wakes late", x.first(0, 1), 7);
        x.set(1, 3, 200);
        due.is("first(0, 1), the second wakes at 200", x.first(0, 1), 203);
        x.shut(1, 0, 203, 1);
        due.is("shut for one of them", x.first(0, 1), 207);
        x.shut(-1, 0, 206, 500);
        due.is("shut for all", x.first(0, 1), 707);
        x.open(0, 2);
        due.is("meets on another channel", x.first(0, 1), 200);
        x.open(1, 4);
        due.is("nothing common", x.first(0, 1), -1);
        x.open(0, 0);
        x.open(1, 0);
        due.is("nowhere is no channel to meet on", x.first(0, 1), -1);
        due.is("not together either", x.together(0, 1, 1500), 0);
    }

    private static void firstWithin() {
        HopMeet x = pair(2, 0, 2, 0);
        due.is("at once", x.first(0, 1), 0);
        x.shut(-1, 0, 0, 500);
        x.shut(0, 0, 500, 500);
        x.shut(1, 0, 1000, 499);
        due.is("in the last of 1500 slots", x.first(0, 1), 1499);
        due.is("together in the last of 1500 slots", x.together(0, 1, 1500), 1);
        due.is("together ahead of it", x.together(0, 1, 1499), 0);
        x.undo();
        x.shut(1, 0, 1000, 500);
        due.is("not within 1500 slots", x.first(0, 1), -1);
        due.is("and never together", x.together(0, 1, 1500), 0);
    }

    // Promise 15
    private static void worst() {
        HopMeet x = pair(1, 0, 2, 0);
        due.is("worst(0, 1, 0)", x.worst(0, 1, 0), 0);
        due.is("worst(0, 1, 1)", x.worst(0, 1, 1), 3);
        due.is("worst(0, 1, 200)", x.worst(0, 1, 200), 3);
        due.is("worst(1, 0, 0)", x.worst(1, 0, 0), 0);
        due.is("worst(1, 0, 200): who waits has no shift", x.worst(1, 0, 200), 0);
        x.set(1, 1, 1);
        due.is("worst(0, 1, 0)", x.worst(0, 1, 0), 1);
        due.is("worst(0, 1, 1)", x.worst(0, 1, 1), 1);
        due.is("worst(0, 1, 2)", x.worst(0, 1, 2), 3);
        due.is("worst(1, 0, 5)", x.worst(1, 0, 5), 1);
        // P 5, J 2: 0 2 0 1 3 over and over, and the one that waits is on 3
        x.set(0, 0, 3);
        x.set(0, 2, 1);
        x.set(1, 1, 3);
        due.is("by a clock: worst(0, 1, 0)", x.worst(0, 1, 0), 4);
        due.is("by a clock: worst(0, 1, 4)", x.worst(0, 1, 4), 4);
        due.is("by a clock: worst(1, 0, 200)", x.worst(1, 0, 200), 4);
        x.set(1, 1, 2);
        due.is("by a clock: worst(0, 1, 0)", x.worst(0, 1, 0), 1);
        due.is("by a clock: worst(0, 1, 1)", x.worst(0, 1, 1), 1);
        due.is("by a clock: worst(0, 1, 2)", x.worst(0, 1, 2), 4);
    }

    private static void worstLeavesOut() {
        HopMeet x = pair(1, 0, 2, 0);
        x.set(0, 3, 123);
        x.set(1, 3, 77);
        due.is("when they wake does not count", x.worst(0, 1, 0), 0);
        due.is("when they wake does not count", x.worst(0, 1, 1), 3);
        x.shut(-1, 0, 0, 500);
        x.shut(0, 0, 500, 500);
        x.shut(1, 0, 0, 500);
        due.is("spells do not count", x.worst(0, 1, 1), 3);
        x.open(0, 14);
        x.open(1, 3);
        // the first one: 1 1 2 3, as 0 is not open and 0 left over by three is 0; the second waits on 0
        due.is("open counts", x.worst(0, 1, 5), HopMeet.NEVER);
        x.set(1, 1, 1);
        due.is("open counts", x.worst(0, 1, 0), 0);
        due.is("open counts", x.worst(0, 1, 1), 0);
        due.is("open counts", x.worst(0, 1, 2), 2);
    }

    private static void worstNever() {
        HopMeet x = new HopMeet();
        x.channels(2);
        x.user(1, 0, 0, 0);
        x.user(1, 0, 0, 0);
        due.is("two sweep as one", x.worst(0, 1, 0), 0);
        due.is("never by one shift", x.worst(0, 1, 1), HopMeet.NEVER);
        due.is("never by one shift of many", x.worst(0, 1, 200), HopMeet.NEVER);
        x.set(1, 1, 1);
        due.is("never by the first shift", x.worst(0, 1, 200), HopMeet.NEVER);
        x.open(0, 0);
        due.is("never with none open", x.worst(0, 1, 0), HopMeet.NEVER);
        x.open(1, 0);
        due.is("never with none open to both", x.worst(0, 1, 0), HopMeet.NEVER);
        due.is("no bound then", x.bound(0, 1, 0, 1500), 0);
    }

    /** One that waits on a channel is met when the other one next points at it, whatever the slots are that are left. */
    private static void worstBySteps() {
        HopMeet x = new HopMeet();
        x.channels(10);
        x.user(0, 0, 0, 200);
        x.user(2, 5, 0, 200);
        int want = 0;
        for (int shift = 0; shift <= 200; shift++) {
            int i = 0;
            while (x.pointsAt(0, 200 + shift + i) != 5) {
                i++;
            }
            want = Math.max(want, i);
            due.is("worst(0, 1, " + shift + ")", x.worst(0, 1, shift), want);
        }
    }

    /** Pairs whose first meeting by one shift comes in the last of the 1500 slots, or one slot later. */
    private static void worstWithin() {
        for (int wakes = 0; wakes <= 200; wakes += 200) {
            HopMeet x = new HopMeet();
            x.channels(8);
            x.user(0, 13, 85, wakes);
            x.user(0, 25, 23, 200 - wakes);
            x.open(0, 52);
            x.open(1, 235);
            due.is("worst(0, 1, 127)", x.worst(0, 1, 127), 1009);
            due.is("worst(0, 1, 128): in the last slot", x.worst(0, 1, 128), 1499);
            due.is("bound(0, 1, 128, 1498)", x.bound(0, 1, 128, 1498), 0);
            due.is("bound(0, 1, 128, 1499)", x.bound(0, 1, 128, 1499), 1);
            x.channels(9);
            x.user(0, 22, 67, wakes);
            x.user(0, 27, 78, 200 - wakes);
            x.open(0, 298);
            x.open(1, 157);
            due.is("worst(0, 1, 184)", x.worst(0, 1, 184), 1006);
            due.is("worst(0, 1, 185): one slot too late", x.worst(0, 1, 185), HopMeet.NEVER);
            due.is("bound(0, 1, 185, 1500)", x.bound(0, 1, 185, 1500), 0);
        }
    }

    // Promise 16
    private static void bound() {
        HopMeet x = pair(1, 0, 2, 0);
        due.is("bound(0, 1, 0, 0)", x.bound(0, 1, 0, 0), 1);
        due.is("bound(0, 1, 1, 2)", x.bound(0, 1, 1, 2), 0);
        due.is("bound(0, 1, 1, 3)", x.bound(0, 1, 1, 3), 1);
        due.is("bound(0, 1, 1, 4)", x.bound(0, 1, 1, 4), 1);
        due.is("bound(0, 1, 200, 3)", x.bound(0, 1, 200, 3), 1);
        due.is("bound(0, 1, 200, 0)", x.bound(0, 1, 200, 0), 0);
        due.is("bound(0, 1, 200, 1500)", x.bound(0, 1, 200, 1500), 1);
        due.is("bound(1, 0, 200, 0)", x.bound(1, 0, 200, 0), 1);
        x.open(1, 0);
        due.is("bound of NEVER", x.bound(0, 1, 0, 1500), 0);
    }

    // Promise 17
    private static void together() {
        HopMeet x = pair(1, 0, 2, 2);
        due.is("together(0, 1, 0)", x.together(0, 1, 0), 0);
        due.is("together(0, 1, 2)", x.together(0, 1, 2), 0);
        due.is("together(0, 1, 3)", x.together(0, 1, 3), 1);
        due.is("together(1, 0, 7)", x.together(1, 0, 7), 2);
        due.is("together(0, 1, 1500)", x.together(0, 1, 1500), 375);
        x.set(1, 3, 10);
        due.is("when it wakes counts", x.together(0, 1, 11), 1);
        due.is("when it wakes counts", x.together(0, 1, 1500), 373);
        x.shut(-1, 2, 10, 5);
        due.is("shut for all: two fewer", x.together(0, 1, 1500), 371);
        x.shut(0, 2, 18, 1);
        due.is("shut for one: one fewer", x.together(0, 1, 1500), 370);
        x.shut(1, 3, 0, 500);
        due.is("another channel shut: none fewer", x.together(0, 1, 1500), 370);
        due.is("both on one channel all the time", pair(2, 1, 2, 5).together(0, 1, 1500), 1500);
    }

    // Promise 18
    private static void even() {
        HopMeet x = new HopMeet();
        x.user(1, 3, 0, 0);
        due.is("even(0, 1)", x.even(0, 1), 1);
        due.is("even(0, 3)", x.even(0, 3), 1);
        due.is("even(0, 4)", x.even(0, 4), 0);
        due.is("even(0, 5)", x.even(0, 5), 1);
        due.is("even(0, 1500)", x.even(0, 1500), 0);
        x.open(0, 7);
        // 0 0 1 2 over and over
        due.is("even(0, 4) of three", x.even(0, 4), 1);
        due.is("even(0, 400) of three", x.even(0, 400), 100);
        x.open(0, 8);
        due.is("one open", x.even(0, 1500), 0);
        x.open(0, 0);
        due.is("none open", x.even(0, 1500), 0);
        x.user(2, 1, 0, 0);
        due.is("waits", x.even(1, 1), 1);
        due.is("waits", x.even(1, 1500), 1500);
        // P 5, J 1: 0 1 2 3 0 0 1 2 3 0, then five times 1
        x.user(0, 0, 0, 0);
        due.is("jumps", x.even(2, 10), 2);
        due.is("jumps and stays", x.even(2, 15), 5);
        due.is("by one slot less", x.even(2, 14), 4);
    }

    private static void evenLeavesOut() {
        HopMeet x = new HopMeet();
        x.user(2, 1, 0, 200);
        due.is("when it wakes does not count", x.even(0, 10), 10);
        x.shut(-1, 1, 0, 500);
        x.shut(0, 1, 200, 500);
        due.is("spells do not count", x.even(0, 10), 10);
    }

    private static void wrongPairs() {
        HopMeet x = new HopMeet();
        due.unknown("first(0, 1) with no users", x.first(0, 1));
        due.unknown("even(0, 1) with no users", x.even(0, 1));
        x.user(0, 0, 0, 0);
        x.user(1, 0, 0, 0);
        int[][] pairs = {{0, 0}, {1, 1}, {0, 2}, {2, 0}, {-1, 0}, {0, -1}, {-1, -1}, {2, 2}, {5, 6},
            {Integer.MIN_VALUE, 0}, {1, Integer.MAX_VALUE}};
        for (int[] p : pairs) {
            String who = "(" + p[0] + ", " + p[1];
            due.unknown("first" + who + ")", x.first(p[0], p[1]));
            for (int d : new int[] {0, 200, -1, 201}) {
                due.unknown("worst" + who + ", " + d + ")", x.worst(p[0], p[1], d));
                due.unknown("bound" + who + ", " + d + ", 0)", x.bound(p[0], p[1], d, 0));
                due.unknown("bound" + who + ", " + d + ", -1)", x.bound(p[0], p[1], d, -1));
            }
            for (int n : new int[] {0, 1500, -1, 1501}) {
                due.unknown("together" + who + ", " + n + ")", x.together(p[0], p[1], n));
            }
        }
        for (int u : new int[] {-1, 2, 5, Integer.MIN_VALUE, Integer.MAX_VALUE}) {
            for (int n : new int[] {1, 0, 1500, 1501}) {
                due.unknown("even(" + u + ", " + n + ")", x.even(u, n));
            }
        }
    }

    private static void wrongNumbers() {
        HopMeet x = pair(0, 0, 1, 0);
        for (int d : new int[] {-1, 201, Integer.MIN_VALUE, Integer.MAX_VALUE}) {
            due.outside("worst(0, 1, " + d + ")", x.worst(0, 1, d));
            due.outside("bound(0, 1, " + d + ", 5)", x.bound(0, 1, d, 5));
        }
        for (int b : new int[] {-1, 1501, Integer.MIN_VALUE, Integer.MAX_VALUE}) {
            due.outside("bound(0, 1, 5, " + b + ")", x.bound(0, 1, 5, b));
        }
        for (int n : new int[] {-1, 1501, Integer.MIN_VALUE, Integer.MAX_VALUE}) {
            due.outside("together(0, 1, " + n + ")", x.together(0, 1, n));
            due.outside("even(0, " + n + ")", x.even(0, n));
        }
        due.outside("even(0, 0)", x.even(0, 0));
        x.open(0, 0);
        due.outside("even(0, 0), none open", x.even(0, 0));
        due.outside("even(0, 1501), none open", x.even(0, 1501));
    }

    private static void askingChangesNothing() {
        HopMeet x = pair(2, 0, 2, 1);
        x.run(9);
        x.first(0, 1);
        x.worst(0, 1, 200);
        x.bound(1, 0, 200, 9);
        x.together(0, 1, 1500);
        x.even(0, 1500);
        due.is("slots", x.told(5), 9);
        due.is("WAKES of the first", x.userOf(0, 3), 0);
        due.is("WAKES of the second", x.userOf(1, 3), 0);
        due.is("no change to be undone", x.told(8), 2);
    }
}
