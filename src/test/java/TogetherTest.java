/** Promises 19 to 21: slots that are run, till all are one, and anew. */
public final class TogetherTest {
    private static final Due due = new Due("TogetherTest");

    public static void main(String[] args) {
        run();
        theGroupGoesByItsLeast();
        theLeastIsNowhere();
        notAwake();
        manyInOneSlot();
        runWrong();
        threeThousand();
        cutAtThreeThousand();
        merge();
        mergeAtTheEnd();
        part();
        eachChangeBeginsAnew();
        due.end();
    }

    private static HopMeet waiting(int... starts) {
        HopMeet x = new HopMeet();
        for (int start : starts) {
            x.user(2, start, 0, 0);
        }
        return x;
    }

    // Promise 19
    private static void run() {
        HopMeet x = waiting(0, 1, 1);
        x.set(0, 0, 1);
        due.is("run(1): two meet in slot 0", x.run(1), 2);
        due.is("least of 2", x.userOf(2, 5), 1);
        due.is("size", x.userOf(2, 6), 2);
        due.is("least of 0", x.userOf(0, 5), 0);
        due.is("not merged", x.told(7), 0);
        due.is("run(1): all meet in slot 1", x.run(1), 1);
        due.is("least of 2", x.userOf(2, 5), 0);
        due.is("least of 1", x.userOf(1, 5), 0);
        due.is("size", x.userOf(1, 6), 3);
        due.is("merged", x.told(7), 1);
        due.is("slots", x.told(5), 2);
        due.is("run(200): they stay one", x.run(200), 1);
        due.is("slots", x.told(5), 202);
        due.is("one user is one group", waiting(0).run(1), 1);
    }

    private static void theGroupGoesByItsLeast() {
        // 2 sweeps, but meets 1 first and goes with it, and so never comes to 0
        HopMeet x = waiting(0, 1, 1);
        x.set(2, 0, 1);
        due.is("run(200)", x.run(200), 2);
        due.is("least of 2", x.userOf(2, 5), 1);
        due.is("alone it would meet 0", x.first(0, 2), 3);
        due.is("where it is by its own row is told all the same", x.on(2, 3), 0);
        // the least sweeps, and takes the other with it
        HopMeet y = waiting(3, 1, 1);
        y.set(1, 0, 1);
        due.is("run(2)", y.run(2), 2);
        due.is("run(1): 1 comes to 3 with 2", y.run(1), 1);
        due.is("size", y.userOf(2, 6), 3);
    }

    private static void theLeastIsNowhere() {
        HopMeet x = waiting(0, 0, 1);
        x.set(2, 0, 1);
        x.shut(0, 0, 1, 500);
        due.is("run(1)", x.run(1), 2);
        due.is("merge(): 2 is on 0 in slot 3, but the group is nowhere till slot 501", x.merge(), 504);
        // what is shut for one that is not the least does not count
        HopMeet y = waiting(0, 0, 1);
        y.set(2, 0, 1);
        y.shut(1, 0, 1, 500);
        due.is("merge()", y.merge(), 4);
        // nowhere for two leads is no channel
        HopMeet z = waiting(0, 1);
        z.open(0, 0);
        z.open(1, 0);
        due.is("run(200)", z.run(200), 2);
        z.open(0, 1);
        z.open(1, 1);
        z.shut(-1, 0, 0, 500);
        due.is("run(200), shut for all", z.run(200), 2);
    }

    private static void notAwake() {
        HopMeet x = waiting(0, 0);
        x.set(1, 3, 200);
        due.is("run(200)", x.run(200), 2);
        due.is("run(1)", x.run(1), 1);
        HopMeet y = waiting(0, 0);
        y.set(0, 3, 57);
        due.is("merge()", y.merge(), 58);
    }

    private static void manyInOneSlot() {
        HopMeet x = waiting(0, 1, 0, 1, 1);
        due.is("two groups by one slot", x.run(1), 2);
        int[] least = {0, 1, 0, 1, 1};
        int[] size = {2, 3, 2, 3, 3};
        for (int u = 0; u < 5; u++) {
            due.is("userOf(" + u + ", 5)", x.userOf(u, 5), least[u]);
            due.is("userOf(" + u + ", 6)", x.userOf(u, 6), size[u]);
        }
        HopMeet y = waiting(2, 2, 2, 2, 2);
        due.is("five by one slot", y.run(1), 1);
        due.is("size", y.userOf(4, 6), 5);
        due.is("least", y.userOf(4, 5), 0);
        due.is("five channels of their own", waitingOver(10, 0, 2, 4, 6, 9).run(200), 5);
    }

    private static HopMeet waitingOver(int channels, int... starts) {
        HopMeet x = new HopMeet();
        x.channels(channels);
        for (int start : starts) {
            x.user(2, start, 0, 0);
        }
        return x;
    }

    private static void runWrong() {
        HopMeet x = new HopMeet();
        due.not("run(1) with no users", x.run(1));
        due.not("run(200) with no users", x.run(200));
        for (int n : new int[] {0, -1, 201, Integer.MIN_VALUE, Integer.MAX_VALUE}) {
            due.outside("run(" + n + ") with no users", x.run(n));
        }
        x.user(0, 0, 0, 0);
        for (int n : new int[] {0, -1, 201, Integer.MIN_VALUE, Integer.MAX_VALUE}) {
            due.outside("run(" + n + ")", x.run(n));
        }
        due.is("nothing was run", x.told(5), 0);
        due.is("run(200)", x.run(200), 1);
        due.is("slots", x.told(5), 200);
    }

    private static void threeThousand() {
        HopMeet x = waiting(0, 1);
        for (int i = 1; i <= 15; i++) {
            due.is("run(200)", x.run(200), 2);
            due.is("slots", x.told(5), 200 * i);
        }
        due.full("run(1)", x.run(1));
        due.full("run(200)", x.run(200));
        due.outside("OUTSIDE ahead of FULL", x.run(0));
        due.outside("OUTSIDE ahead of FULL", x.run(201));
        due.is("merge() has no slot left", x.merge(), 3000);
        due.is("slots", x.told(5), 3000);
        due.is("part()", x.part(), 3000);
        due.is("run(1) after part()", x.run(1), 2);
        due.is("slots", x.told(5), 1);
    }

    private static void cutAtThreeThousand() {
        HopMeet x = waiting(0, 1);
        x.set(1, 3, 0);
        for (int i = 0; i < 14; i++) {
            x.run(200);
        }
        x.run(199);
        due.is("slots", x.told(5), 2999);
        due.is("run(200): one slot is left", x.run(200), 2);
        due.is("slots", x.told(5), 3000);
        due.full("run(1)", x.run(1));
        // where the meeting comes behind what any spell covers
        HopMeet y = waiting(0, 0);
        y.shut(-1, 0, 0, 500);
        y.shut(-1, 0, 500, 500);
        y.shut(-1, 0, 1000, 500);
        y.shut(-1, 0, 1500, 500);
        due.is("merge(): 1500 slots at most", y.merge(), 1500);
        due.is("groups", y.told(6), 2);
        due.is("merge() once more", y.merge(), 2001);
        due.is("groups", y.told(6), 1);
    }

    // Promise 20
    private static void merge() {
        HopMeet x = new HopMeet();
        due.not("merge() with no users", x.merge());
        x.user(0, 5, 6, 100);
        due.is("merge() of one user", x.merge(), 0);
        HopMeet y = waiting(3, 2);
        y.set(1, 0, 1);
        due.is("merge()", y.merge(), 2);
        due.is("groups", y.told(6), 1);
        due.is("merge() again runs nothing", y.merge(), 2);
        y.run(10);
        due.is("merge() after more", y.merge(), 12);
        HopMeet z = waiting(3, 2);
        z.set(1, 0, 1);
        z.run(1);
        due.is("merge() goes on from what was run", z.merge(), 2);
        HopMeet late = waiting(0, 0);
        late.shut(-1, 0, 0, 500);
        late.shut(-1, 0, 500, 500);
        late.shut(-1, 0, 1000, 499);
        due.is("merge() by the last of 1500 slots", late.merge(), 1500);
        due.is("merged", late.told(7), 1);
    }

    private static void mergeAtTheEnd() {
        HopMeet x = waiting(0, 1);
        due.is("merge()", x.merge(), 1500);
        due.is("merge()", x.merge(), 3000);
        due.is("merge()", x.merge(), 3000);
        due.is("not merged", x.told(7), 0);
        due.full("run(1)", x.run(1));
        HopMeet y = waiting(0, 1);
        for (int i = 0; i < 10; i++) {
            y.run(200);
        }
        due.is("merge(): 3000 in all", y.merge(), 3000);
        HopMeet z = waiting(0, 1);
        z.run(100);
        due.is("merge(): 1500 more", z.merge(), 1600);
    }

    // Promise 21
    private static void part() {
        HopMeet x = new HopMeet();
        due.is("part() with no users", x.part(), 0);
        x.user(2, 0, 0, 0);
        x.user(2, 0, 0, 0);
        due.is("part() ahead of all", x.part(), 0);
        x.run(17);
        due.is("groups", x.told(6), 1);
        due.is("part()", x.part(), 17);
        due.is("slots", x.told(5), 0);
        due.is("each alone", x.told(6), 2);
        due.is("least", x.userOf(1, 5), 1);
        due.is("size", x.userOf(0, 6), 1);
        due.is("part() again", x.part(), 0);
        due.is("part() is no change to be undone", x.told(8), 2);
        due.is("merge() from slot 0 on", x.merge(), 1);
    }

    private static void eachChangeBeginsAnew() {
        for (int change = 0; change < 8; change++) {
            HopMeet x = waiting(1, 1);
            x.keep(0);
            x.run(3);
            due.is("ahead: groups", x.told(6), 1);
            int users = 2;
            switch (change) {
                case 0: x.user(2, 1, 0, 0); users = 3; break;
                case 1: x.open(0, 15); break;
                case 2: x.set(0, 0, 2); break;
                case 3: x.shut(0, 0, 0, 1); break;
                case 4: x.drift(9); break;
                case 5: x.undo(); users = 1; break;
                case 6: x.goBack(0); break;
                default: x.channels(4); users = 0; break;
            }
            due.is("change " + change + ": slots", x.told(5), 0);
            due.is("change " + change + ": groups", x.told(6), users);
            for (int u = 0; u < users; u++) {
                due.is("change " + change + ": least", x.userOf(u, 5), u);
            }
        }
    }
}
