/** Sentences of promises 19 to 21: slots that are run, till all are one, and anew. */
final class SentencesOfRunning {
    private static final int[] FAR = {Integer.MIN_VALUE, -1000000001, Integer.MAX_VALUE};

    private final Sentences s;

    SentencesOfRunning(Sentences sentences) {
        s = sentences;
    }

    void all() {
        run();
        runRefused();
        merge();
        mergeAtMost();
        part();
    }

    private static HopMeet waiting(int... starts) {
        HopMeet x = new HopMeet();
        for (int start : starts) {
            x.user(2, start, 0, 0);
        }
        return x;
    }

    private static void runSlots(HopMeet x, int slots) {
        for (int left = slots; left > 0; left -= 200) {
            x.run(Math.min(left, 200));
        }
    }

    private void run() {
        s.says("Promise 19", "n slots (1 .. 200; 3000 in all at most) are RUN: GROUPS.");
        HopMeet x = waiting(0, 0, 1);
        s.is("run(1)", x.run(1), 2);
        s.is("slots", x.told(5), 1);
        s.is("run(200)", x.run(200), 2);
        s.is("slots", x.told(5), 201);
        runSlots(x, 2798);
        s.is("slots", x.told(5), 2999);
        s.is("one slot is left of 3000: run(200)", x.run(200), 2);
        s.is("slots", x.told(5), 3000);
        s.is("one USER is one GROUP", waiting(0).run(1), 1);
        // 1 comes to 0 in slot 200 and stays alone till then
        x = waiting(0, 0);
        x.set(1, 3, 200);
        s.is("slots 0 to 199", x.run(200), 2);
        s.is("slot 200", x.run(1), 1);
    }

    private void runRefused() {
        s.says("Promise 19", "OUTSIDE, NOT: no USERS;");
        HopMeet x = new HopMeet();
        s.not("run(1)", x.run(1));
        s.not("run(200)", x.run(200));
        s.outside("run(0)", x.run(0));
        s.outside("run(201)", x.run(201));
        x.user(0, 0, 0, 0);
        s.outside("run(0) of one", x.run(0));
        s.outside("run(-1) of one", x.run(-1));
        s.outside("run(201) of one", x.run(201));
        for (int far : FAR) {
            s.outside("run(" + far + ")", x.run(far));
        }
        s.is("nothing was RUN", x.told(5), 0);

        s.says("Promise 19", "FULL: 3000 were RUN.");
        runSlots(x, 2999);
        s.is("2999 were: run(1)", x.run(1), 1);
        s.is("slots", x.told(5), 3000);
        s.full("run(1)", x.run(1));
        s.full("run(200)", x.run(200));
        s.outside("run(201)", x.run(201));
        s.is("slots", x.told(5), 3000);
        x.part();
        s.is("after part(): run(1)", x.run(1), 1);
        s.is("slots", x.told(5), 1);
    }

    private void merge() {
        s.says("Promise 20", "RUN till all are MERGED,");
        HopMeet x = waiting(0);
        s.is("one USER is MERGED as it is", x.merge(), 0);
        x = waiting(3, 3);
        s.is("in slot 0", x.merge(), 1);
        s.is("GROUPS", x.told(6), 1);
        s.is("nothing more is RUN", x.merge(), 1);
        x.run(9);
        s.is("nothing more is RUN", x.merge(), 10);
        x = waiting(3, 2);
        x.set(1, 0, 1);
        x.run(1);
        s.is("from slot 1 on", x.merge(), 2);
        s.is("all", x.userOf(1, 6), 2);

        s.says("Promise 20", "slots that were RUN, in all.");
        x = waiting(0, 1);
        x.run(7);
        s.is("7 and 1500", x.merge(), 1507);
        s.is("slots", x.told(5), 1507);

        s.says("Promise 20", "NOT: no USERS.");
        s.not("merge() of none", new HopMeet().merge());
        x.channels(4);
        s.not("merge() of none again", x.merge());
        s.is("slots", x.told(5), 0);
    }

    private void mergeAtMost() {
        s.says("Promise 20", "1500 slots more at most (3000 in all):");
        HopMeet x = waiting(0, 1);
        s.is("1500", x.merge(), 1500);
        s.is("1500 more", x.merge(), 3000);
        s.is("none more", x.merge(), 3000);
        s.is("not MERGED", x.told(7), 0);
        x.part();
        x.run(1);
        s.is("1501", x.merge(), 1501);
        s.is("3000 in all", x.merge(), 3000);
        // shut to slot 1498, so that slot 1499, the last of 1500, is the one in which they meet
        x = shutTo(1498);
        s.is("in the last of 1500", x.merge(), 1500);
        s.is("MERGED", x.told(7), 1);
        x = shutTo(1499);
        s.is("not in 1500", x.merge(), 1500);
        s.is("not MERGED", x.told(7), 0);
        s.is("in one more", x.merge(), 1501);
        s.is("MERGED", x.told(7), 1);
    }

    private static HopMeet shutTo(int last) {
        HopMeet x = waiting(0, 0);
        x.shut(-1, 0, 0, 500);
        x.shut(-1, 0, 500, 500);
        x.shut(-1, 0, 1000, last - 999);
        return x;
    }

    private void part() {
        s.says("Promise 21", "RUN begins anew (each alone): slots that were RUN.");
        HopMeet x = new HopMeet();
        s.is("no USERS", x.part(), 0);
        x = waiting(0, 0, 0);
        s.is("nothing was RUN", x.part(), 0);
        x.run(17);
        s.is("17", x.part(), 17);
        s.is("slots", x.told(5), 0);
        s.is("GROUPS", x.told(6), 3);
        for (int u = 0; u < 3; u++) {
            s.is("the least of " + u, x.userOf(u, 5), u);
            s.is("how many with " + u, x.userOf(u, 6), 1);
        }
        s.is("part() again", x.part(), 0);
        s.is("what can be undone stays", x.told(8), 3);
        s.is("slot 0 is RUN again", x.run(1), 1);
        runSlots(x, 2999);
        s.is("3000", x.part(), 3000);
    }
}
