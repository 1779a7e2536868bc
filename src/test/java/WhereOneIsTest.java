/** Promises 11 to 13: what one points at, where one is, why somebody is nowhere. */
public final class WhereOneIsTest {
    private static final Due due = new Due("WhereOneIsTest");

    public static void main(String[] args) {
        jumpsAndStays();
        jumpsGrow();
        otherRows();
        everyNumberOfChannels();
        wakes();
        openOnes();
        noneOpen();
        shutForOneAndAll();
        whyInOrder();
        wrongInputs();
        due.end();
    }

    private static void points(HopMeet x, int u, int from, int... want) {
        for (int i = 0; i < want.length; i++) {
            due.is("pointsAt(" + u + ", " + (from + i) + ")", x.pointsAt(u, from + i), want[i]);
        }
    }

    private static void ison(HopMeet x, int u, int from, int... want) {
        for (int i = 0; i < want.length; i++) {
            int t = from + i;
            due.is("on(" + u + ", " + t + ")", x.on(u, t), want[i]);
            due.is("why(" + u + ", " + t + ") is 0 just where one is somewhere", x.why(u, t) == 0 ? 1 : 0, want[i] >= 0 ? 1 : 0);
        }
    }

    // Promise 11: N 4, P 5, S 3, J 3
    private static void jumpsAndStays() {
        HopMeet x = new HopMeet();
        x.user(0, 3, 2, 0);
        points(x, 0, 0, 3, 1, 0, 2, 0, 3, 1, 0, 2, 0, 3, 3, 3, 3, 3);
        points(x, 0, 15, 0, 2, 0, 3, 1, 0, 2, 0, 3, 1, 3, 3, 3, 3, 3);
        points(x, 0, 30, 0, 3);
        x.user(0, 3, 6, 0);
        points(x, 1, 0, 3, 1, 0, 2, 0, 3, 1, 0, 2, 0, 3, 3, 3, 3, 3);
        x.user(0, 0, 99, 0);
        // 99 left over by 4 is 3, so J is 4, which stays as 0
        points(x, 2, 0, 0, 0, 3, 2, 1, 0, 0, 3, 2, 1, 0, 0, 0, 0, 0, 1);
    }

    // J is one more after P rounds of 3 P slots, and goes round from N to 1
    private static void jumpsGrow() {
        HopMeet x = new HopMeet();
        x.user(0, 3, 2, 0);
        points(x, 0, 70, 3, 3, 3, 3, 3, 3, 2, 1, 0, 0, 3, 2, 1, 0, 0, 0, 0, 0, 0, 0);
        points(x, 0, 150, 3, 0, 0, 1, 2, 3, 0, 0, 1, 2, 1, 1, 1, 1, 1);
        x.channels(2);
        x.user(0, 0, 0, 0);
        // N 2, P 3: nine slots a round, three rounds by one J
        points(x, 0, 0, 0, 1, 0, 0, 1, 0, 1, 1, 1, 1, 0, 0);
        points(x, 0, 27, 0, 0, 1, 0, 0, 1, 0, 0, 0);
        points(x, 0, 54, 0, 1, 0, 0, 1, 0, 1, 1, 1);
        x.channels(10);
        x.user(0, 99, 99, 0);
        // N 10, P 11, J 10: k is 90 at 2970, J more by 8: 8; 99 and 90 is 189, 2 by 11
        points(x, 0, 2970, 2, 0, 7, 4);
        due.is("pointsAt(0, 3000): stays", x.pointsAt(0, 2992), 8);
        due.is("pointsAt(0, 3000): stays", x.pointsAt(0, 3000), 8);
    }

    private static void otherRows() {
        HopMeet x = new HopMeet();
        x.user(1, 3, 50, 0);
        points(x, 0, 0, 3, 0, 1, 2, 3, 0, 1, 2, 3);
        due.is("sweeps at 3000", x.pointsAt(0, 3000), 3);
        x.user(2, 7, 50, 0);
        points(x, 1, 0, 3, 3, 3, 3, 3, 3);
        due.is("waits at 3000", x.pointsAt(1, 3000), 3);
        x.user(3, 3, 6, 0);
        points(x, 2, 0, 3, 1, 0, 2, 0, 3, 1, 0, 2, 0, 3, 1, 0);
        // (99 and 3000 times 4) by 5 is 4, 0 by 4
        x.user(3, 99, 99, 0);
        due.is("by a clock at 3000", x.pointsAt(3, 3000), 0);
        due.is("by a clock at 2999", x.pointsAt(3, 2999), 0);
        due.is("by a clock at 2998", x.pointsAt(3, 2998), 1);
    }

    private static void everyNumberOfChannels() {
        int[] primes = {0, 0, 3, 5, 5, 7, 7, 11, 11, 11, 11};
        for (int n = 2; n <= 10; n++) {
            HopMeet x = new HopMeet();
            x.channels(n);
            x.user(1, 98, 0, 0);
            x.user(2, 98, 0, 0);
            x.user(3, 98, 7, 0);
            int jump = 1 + 7 % n;
            for (int t = 0; t <= 3000; t += 37) {
                due.is("sweeps over " + n + " at " + t, x.pointsAt(0, t), (98 + t) % n);
                due.is("waits over " + n + " at " + t, x.pointsAt(1, t), 98 % n);
                due.is("by a clock over " + n + " at " + t, x.pointsAt(2, t), (98 + t * jump) % primes[n] % n);
            }
        }
    }

    private static void wakes() {
        HopMeet x = new HopMeet();
        x.user(1, 2, 0, 200);
        points(x, 0, 0, -1, -1);
        points(x, 0, 198, -1, -1, 2, 3, 0, 1);
        due.is("on(0, 199)", x.on(0, 199), -1);
        due.is("why(0, 199)", x.why(0, 199), 1);
        due.is("on(0, 200)", x.on(0, 200), 2);
        due.is("why(0, 200)", x.why(0, 200), 0);
        x.user(1, 2, 0, 0);
        points(x, 1, 0, 2, 3);
        x.user(0, 3, 2, 13);
        points(x, 2, 12, -1, 3, 1, 0, 2, 0);
    }

    // Promise 12
    private static void openOnes() {
        HopMeet x = new HopMeet();
        x.user(1, 0, 0, 0);
        ison(x, 0, 0, 0, 1, 2, 3, 0);
        x.open(0, 10);
        ison(x, 0, 0, 1, 1, 1, 3, 1, 1, 1, 3);
        points(x, 0, 0, 0, 1, 2, 3);
        x.open(0, 13);
        ison(x, 0, 0, 0, 2, 2, 3);
        x.open(0, 14);
        ison(x, 0, 0, 1, 1, 2, 3);
        x.open(0, 7);
        ison(x, 0, 0, 0, 1, 2, 0);
        x.open(0, 4);
        ison(x, 0, 0, 2, 2, 2, 2);
        x.channels(10);
        x.user(1, 0, 0, 0);
        x.open(0, 0b1010010100);
        ison(x, 0, 0, 2, 4, 2, 9, 4, 4, 7, 7, 2, 9);
    }

    private static void noneOpen() {
        HopMeet x = new HopMeet();
        x.user(0, 0, 0, 5);
        x.open(0, 0);
        points(x, 0, 4, -1, 0, 1);
        ison(x, 0, 4, -1, -1, -1);
        due.is("why(0, 4)", x.why(0, 4), 1);
        due.is("why(0, 5)", x.why(0, 5), 2);
        due.is("why(0, 3000)", x.why(0, 3000), 2);
    }

    private static void shutForOneAndAll() {
        HopMeet x = new HopMeet();
        x.user(1, 0, 0, 0);
        x.user(1, 0, 0, 0);
        x.shut(1, 1, 4, 4);
        ison(x, 0, 4, 0, 1, 2, 3, 0, 1);
        ison(x, 1, 4, 0, -1, 2, 3, 0, 1);
        due.is("why(1, 5)", x.why(1, 5), 3);
        points(x, 1, 4, 0, 1, 2);
        x.shut(-1, 2, 6, 1);
        ison(x, 0, 4, 0, 1, -1, 3);
        ison(x, 1, 4, 0, -1, -1, 3);
        due.is("why(0, 6)", x.why(0, 6), 3);
        due.is("why(0, 10)", x.why(0, 10), 0);
        // shut is the channel one would be on, not the one that one points at
        x.open(0, 8);
        ison(x, 0, 6, 3, 3, 3, 3);
        x.shut(0, 3, 7, 2);
        ison(x, 0, 6, 3, -1, -1, 3);
        // spells may lie one over another
        x.shut(-1, 3, 8, 3);
        ison(x, 0, 6, 3, -1, -1, -1, -1, 3);
    }

    // Promise 13
    private static void whyInOrder() {
        HopMeet x = new HopMeet();
        x.user(2, 1, 0, 10);
        x.shut(0, 1, 0, 500);
        due.is("why(0, 9): not awake ahead of shut", x.why(0, 9), 1);
        due.is("why(0, 10): shut", x.why(0, 10), 3);
        due.is("why(0, 499): shut", x.why(0, 499), 3);
        due.is("why(0, 500): it is not", x.why(0, 500), 0);
        x.open(0, 0);
        due.is("why(0, 9): not awake ahead of none open", x.why(0, 9), 1);
        due.is("why(0, 10): none open ahead of shut", x.why(0, 10), 2);
    }

    private static void wrongInputs() {
        HopMeet x = new HopMeet();
        due.unknown("pointsAt(0, 0) with no users", x.pointsAt(0, 0));
        due.unknown("on(0, 0) with no users", x.on(0, 0));
        due.unknown("why(0, 0) with no users", x.why(0, 0));
        x.user(2, 3, 0, 0);
        for (int t : new int[] {-1, 3001, Integer.MIN_VALUE, Integer.MAX_VALUE}) {
            due.outside("pointsAt(0, " + t + ")", x.pointsAt(0, t));
            due.outside("on(0, " + t + ")", x.on(0, t));
            due.outside("why(0, " + t + ")", x.why(0, t));
        }
        for (int u : new int[] {-1, 1, 5, Integer.MIN_VALUE, Integer.MAX_VALUE}) {
            for (int t : new int[] {0, 3000, -1, 3001}) {
                due.unknown("pointsAt(" + u + ", " + t + ")", x.pointsAt(u, t));
                due.unknown("on(" + u + ", " + t + ")", x.on(u, t));
                due.unknown("why(" + u + ", " + t + ")", x.why(u, t));
            }
        }
        due.is("on(0, 3000)", x.on(0, 3000), 3);
        due.is("why(0, 3000)", x.why(0, 3000), 0);
    }
}
