/** What is refused changes nothing; of several refusals the first in the order UNKNOWN, OUTSIDE, NOT, FULL. */
public final class RefusalsTest {
    private static final Due due = new Due("RefusalsTest");
    private static final int[] FAR = {Integer.MIN_VALUE, Integer.MIN_VALUE + 1, -1000000004, -5, 7, 5000, 2000000, Integer.MAX_VALUE};

    public static void main(String[] args) {
        order();
        for (int refused = 0; refused < REFUSED; refused++) {
            changesNothing(refused);
        }
        farNumbers();
        due.end();
    }

    private static HopMeet full() {
        HopMeet x = new HopMeet();
        x.channels(6);
        for (int u = 0; u < 5; u++) {
            x.user(u % 4, 3 * u, 5 * u, u);
        }
        x.open(1, 21);
        x.open(2, 42);
        for (int s = 0; s < 8; s++) {
            x.shut(s % 6 - 1, s % 6, 10 * s, 20);
        }
        x.keep(0);
        x.set(0, 1, 77);
        x.run(23);
        return x;
    }

    private static void order() {
        HopMeet x = full();
        due.unknown("shut: UNKNOWN, OUTSIDE, FULL", x.shut(5, 0, -1, 1));
        due.unknown("shut: a CHANNEL, OUTSIDE, FULL", x.shut(0, 6, -1, 1));
        due.outside("shut: OUTSIDE, FULL", x.shut(0, 0, -1, 1));
        due.full("shut: FULL", x.shut(0, 0, 0, 1));
        due.outside("user: OUTSIDE, FULL", x.user(0, 0, 0, 201));
        due.full("user: FULL", x.user(0, 0, 0, 200));
        due.unknown("open: UNKNOWN, OUTSIDE", x.open(5, 64));
        due.unknown("set: UNKNOWN, OUTSIDE", x.set(5, 4, 0));
        due.unknown("userOf: UNKNOWN, OUTSIDE", x.userOf(5, 7));
        due.unknown("bound: one twice, OUTSIDE", x.bound(2, 2, 201, 0));
        due.unknown("worst: one twice, OUTSIDE", x.worst(2, 2, 201));
        due.unknown("together: one twice, OUTSIDE", x.together(2, 2, 1501));
        due.unknown("goBack: UNKNOWN, NOT", x.goBack(2));
        due.not("goBack: NOT", x.goBack(1));
        HopMeet none = new HopMeet();
        due.outside("drift: OUTSIDE, NOT", none.drift(0));
        due.not("drift: NOT", none.drift(1));
        due.outside("run: OUTSIDE, NOT", none.run(201));
        due.not("run: NOT", none.run(200));
    }

    private static final int REFUSED = 21;

    private static int refuse(HopMeet x, int which) {
        switch (which) {
            case 0: return x.channels(11);
            case 1: return x.user(0, 100, 0, 0);
            case 2: return x.user(0, 0, 0, 0);
            case 3: return x.open(5, 0);
            case 4: return x.open(0, 64);
            case 5: return x.set(5, 0, 0);
            case 6: return x.set(0, 3, 201);
            case 7: return x.shut(5, 0, 0, 1);
            case 8: return x.shut(0, 0, 0, 501);
            case 9: return x.shut(0, 0, 0, 1);
            case 10: return x.drift(1000000);
            case 11: return x.told(9);
            case 12: return x.userOf(0, 7);
            case 13: return x.pointsAt(0, 3001);
            case 14: return x.worst(0, 1, 201);
            case 15: return x.even(0, 0);
            case 16: return x.run(201);
            case 17: return x.keep(2);
            case 18: return x.goBack(1);
            case 19: return x.goBack(-1);
            default: return x.first(3, 3);
        }
    }

    /** Twins: one refuses on its way, and both answer the same from then on. */
    private static void changesNothing(int which) {
        HopMeet x = full();
        HopMeet twin = full();
        due.holds("call " + which + " is refused", refuse(x, which) <= HopMeet.UNKNOWN);
        same("refused " + which, x, twin);
        due.is("refused " + which + ": run", x.run(3), twin.run(3));
        for (int i = 0; i < 13; i++) {
            due.is("refused " + which + ": undo", x.undo(), twin.undo());
            same("refused " + which + ", undone " + i, x, twin);
        }
        for (int i = 0; i < 2; i++) {
            due.is("refused " + which + ": goBack", x.goBack(i), twin.goBack(i));
            same("refused " + which + ", gone back " + i, x, twin);
        }
    }

    private static void same(String when, HopMeet x, HopMeet twin) {
        for (int what = 0; what <= 8; what++) {
            due.is(when + ": told(" + what + ")", x.told(what), twin.told(what));
        }
        for (int u = 0; u < 5; u++) {
            for (int what = 0; what <= 6; what++) {
                due.is(when + ": userOf(" + u + ", " + what + ")", x.userOf(u, what), twin.userOf(u, what));
            }
            for (int t = 0; t < 110; t += 3) {
                due.is(when + ": on(" + u + ", " + t + ")", x.on(u, t), twin.on(u, t));
                due.is(when + ": why(" + u + ", " + t + ")", x.why(u, t), twin.why(u, t));
            }
        }
    }

    /** Numbers far out in every place of every call: an answer comes, and it is a refusal. */
    private static void farNumbers() {
        for (int far : FAR) {
            HopMeet x = full();
            int[] got = {x.user(far, 0, 0, 0), x.open(far, 0), x.set(far, 0, 0), x.set(0, far, 0), x.shut(far, 0, 0, 1),
                x.shut(0, far, 0, 1), x.userOf(far, 0), x.pointsAt(far, 0), x.on(far, 0), x.why(far, 0), x.first(far, 0),
                x.first(0, far), x.worst(far, 0, 0), x.worst(0, far, 0), x.bound(far, 0, 0, 0), x.bound(0, far, 0, 0),
                x.together(far, 0, 0), x.together(0, far, 0), x.even(far, 1), x.keep(far), x.goBack(far), x.first(far, far)};
            for (int i = 0; i < got.length; i++) {
                due.holds("far " + far + ", call " + i + " is refused", got[i] == (i == 0 || i == 3 ? HopMeet.OUTSIDE : HopMeet.UNKNOWN));
            }
            if (far < 0 || far > 3000) {
                int[] outside = {x.channels(far), x.user(0, far, 0, 0), x.user(0, 0, far, 0), x.user(0, 0, 0, far), x.open(0, far),
                    x.set(0, 1, far), x.shut(0, 0, far, 1), x.shut(0, 0, 0, far), x.told(far), x.userOf(0, far),
                    x.pointsAt(0, far), x.on(0, far), x.why(0, far), x.worst(0, 1, far), x.bound(0, 1, far, 0),
                    x.bound(0, 1, 0, far), x.together(0, 1, far), x.even(0, far), x.run(far)};
                for (int i = 0; i < outside.length; i++) {
                    due.outside("far " + far + ", call " + i, outside[i]);
                }
            }
        }
    }
}
