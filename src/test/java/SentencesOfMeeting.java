/** Sentences of the second and the third part of "Terms": meeting, shifts, groups, even, lots, undoing, images. */
final class SentencesOfMeeting {
    private final Sentences s;

    SentencesOfMeeting(Sentences sentences) {
        s = sentences;
    }

    void all() {
        meet();
        first();
        shifted();
        worst();
        never();
        run();
        groups();
        merged();
        common();
        even();
        together();
        lots();
        undone();
        twelve();
        begunAnew();
        images();
    }

    private void says(String words) {
        s.says("Terms", words);
    }

    private static HopMeet waiting(int... starts) {
        HopMeet x = new HopMeet();
        for (int start : starts) {
            x.user(2, start, 0, 0);
        }
        return x;
    }

    /** The first sweeps from channel 0 on, the second waits on one. */
    private static HopMeet sweepAndWait(int start) {
        HopMeet x = new HopMeet();
        x.user(1, 0, 0, 0);
        x.user(2, start, 0, 0);
        return x;
    }

    private void meet() {
        says("MEET: two USERS that are ON one CHANNEL in one slot.");
        s.is("on one: together(0, 1, 1)", waiting(2, 2).together(0, 1, 1), 1);
        s.is("on two: together(0, 1, 1500)", waiting(2, 3).together(0, 1, 1500), 0);
        HopMeet x = new HopMeet();
        x.user(1, 0, 0, 0);
        x.user(1, 1, 0, 0);
        s.is("on one, but never in one slot", x.together(0, 1, 1500), 0);
        x = waiting(2, 2);
        x.set(0, 3, 9);
        x.set(1, 3, 9);
        s.is("both are nowhere: together(0, 1, 9)", x.together(0, 1, 9), 0);
        s.is("both are somewhere: together(0, 1, 10)", x.together(0, 1, 10), 1);
        x.shut(-1, 2, 9, 1);
        s.is("both would be on what is shut", x.together(0, 1, 10), 0);
        x.open(0, 0);
        x.open(1, 0);
        s.is("both have none open", x.together(0, 1, 1500), 0);
    }

    private void first() {
        says("FIRST of two: the least slot from 0 on in which they MEET,");
        s.is("in slot 0", waiting(3, 3).first(0, 1), 0);
        s.is("in slot 1", sweepAndWait(1).first(0, 1), 1);
        s.is("not the next ones", sweepAndWait(3).first(0, 1), 3);

        says("within 1500 slots; NONE.");
        HopMeet x = waiting(0, 0);
        x.shut(-1, 0, 0, 500);
        x.shut(-1, 0, 500, 500);
        x.shut(-1, 0, 1000, 499);
        s.is("in the last, 1499", x.first(0, 1), 1499);
        x.shut(1, 0, 1499, 1);
        s.is("in 1500, which is one too late", x.on(0, 1500) == x.on(1, 1500) ? x.first(0, 1) : 0, -1);
        s.is("never", waiting(0, 1).first(0, 1), -1);
    }

    private void shifted() {
        says("SHIFTED by d: as if the second one would WAKE at the slot at which the first one WAKES, and d");
        HopMeet x = sweepAndWait(0);
        s.is("d 0: both begin at once", x.worst(0, 1, 0), 0);
        s.is("d 1: the first one is a slot ahead", x.worst(0, 1, 1), 3);
        s.is("the second one sweeps, shifted or not", x.worst(1, 0, 1), 0);
        x.set(0, 3, 200);
        s.is("the first one WAKES late, d 0", x.worst(0, 1, 0), 0);
        s.is("the first one WAKES late, d 1", x.worst(0, 1, 1), 3);
        x.set(0, 3, 0);
        x.set(1, 3, 1);
        s.is("when the second one WAKES does not count, d 0", x.worst(0, 1, 0), 0);
        s.is("when the second one WAKES does not count, d 1", x.worst(0, 1, 1), 3);
        s.is("it stays as it was", x.userOf(1, 3), 1);

        says("(d 0 .. 200).");
        s.is("worst(0, 1, 200)", x.worst(0, 1, 200), 3);
        s.outside("worst(0, 1, 201)", x.worst(0, 1, 201));
        s.outside("worst(0, 1, -1)", x.worst(0, 1, -1));
        s.is("bound(0, 1, 200, 3)", x.bound(0, 1, 200, 3), 1);
        s.outside("bound(0, 1, 201, 3)", x.bound(0, 1, 201, 3));
        s.outside("bound(0, 1, -1, 3)", x.bound(0, 1, -1, 3));
    }

    private void worst() {
        says("WORST: of all SHIFTS 0 to d the greatest number of slots from where both are awake to the FIRST one in which they MEET");
        greatestOfShifts(0, 3, 1, 2, 7);
        greatestOfShifts(3, 5, 9, 0, 4);
        greatestOfShifts(0, 99, 99, 3, 0);

        says("(0: at once;");
        s.is("two that wait on one channel", waiting(2, 2).worst(0, 1, 200), 0);
        s.is("one slot later is 1", sweepAndWait(1).worst(0, 1, 0), 1);

        says("none SHUT: spells do not count here);");
        HopMeet x = sweepAndWait(0);
        x.shut(-1, 0, 0, 500);
        x.shut(0, 0, 500, 500);
        x.shut(1, 0, 0, 500);
        s.is("worst(0, 1, 0)", x.worst(0, 1, 0), 0);
        s.is("worst(0, 1, 1)", x.worst(0, 1, 1), 3);
        s.is("bound(0, 1, 1, 3)", x.bound(0, 1, 1, 3), 1);
    }

    /** The first one WAKES at 0, so by a shift of e the second one is as if set to WAKE at e. */
    private void greatestOfShifts(int rowU, int startU, int stepU, int rowV, int startV) {
        HopMeet x = new HopMeet();
        x.channels(10);
        x.user(rowU, startU, stepU, 0);
        x.user(rowV, startV, 1, 0);
        int greatest = 0;
        for (int d = 0; d <= 200; d++) {
            x.set(1, 3, d);
            greatest = Math.max(greatest, x.first(0, 1) - d);
            if (d % 5 == 0 || d < 5) {
                s.is("worst(0, 1, " + d + ")", x.worst(0, 1, d), greatest);
            }
        }
    }

    private void never() {
        says("NEVER (99999), if they do not within 1500 slots for one.");
        HopMeet x = new HopMeet();
        x.channels(2);
        x.user(1, 0, 0, 0);
        x.user(1, 0, 0, 0);
        s.is("shift 0 meets", x.worst(0, 1, 0), 0);
        s.is("shift 1 does not", x.worst(0, 1, 1), 99999);
        s.is("shift 1 of many does not", x.worst(0, 1, 200), 99999);
        x.set(1, 1, 1);
        s.is("shift 0 does not, shift 1 does", x.worst(0, 1, 1), 99999);
        x.open(0, 0);
        s.is("none open", x.worst(0, 1, 0), 99999);
        for (int wakes = 0; wakes <= 200; wakes += 200) {
            x = new HopMeet();
            x.channels(8);
            lastOfShifts(x, 13, 85, 52, 25, 23, 235, wakes);
            s.is("shift 128 meets in slot 1499", x.worst(0, 1, 128), 1499);
            x.channels(9);
            lastOfShifts(x, 22, 67, 298, 27, 78, 157, wakes);
            s.is("shift 184 and less do", x.worst(0, 1, 184), 1006);
            s.is("shift 185 would meet in slot 1500", x.worst(0, 1, 185), 99999);
        }
        // slot 1500 after both are awake, told by where each one is by its own clock
        x.set(0, 3, 0);
        x.set(1, 3, 185);
        s.is("both are on one channel 1500 slots later", x.on(0, 1685) == x.on(1, 1685) ? 1 : 0, 1);
    }

    private static void lastOfShifts(HopMeet x, int startU, int stepU, int openU, int startV, int stepV, int openV, int wakes) {
        x.user(0, startU, stepU, wakes);
        x.user(0, startV, stepV, 200 - wakes);
        x.open(0, openU);
        x.open(1, openV);
    }

    private void run() {
        says("RUN: slots 0 on, one by one (0 were run at first).");
        HopMeet x = waiting(0, 0, 1);
        s.is("at first: slots", x.told(5), 0);
        // 0 and 1 meet in slot 0 alone, 0 and 2 in slot 1
        x.shut(1, 0, 1, 500);
        x.set(2, 0, 1);
        x.set(2, 1, 3);
        s.is("slot 0", x.run(1), 2);
        s.is("slots", x.told(5), 1);
        s.is("slot 1", x.run(1), 1);
        s.is("slots", x.told(5), 2);
    }

    private void groups() {
        says("USERS go in GROUPS: at first each alone.");
        HopMeet x = waiting(0, 0, 0, 0, 0);
        s.is("GROUPS", x.told(6), 5);
        for (int u = 0; u < 5; u++) {
            s.is("the least of the GROUP of " + u, x.userOf(u, 5), u);
            s.is("how many it has", x.userOf(u, 6), 1);
        }
        s.is("GROUPS of no USERS", new HopMeet().told(6), 0);

        says("A GROUP is ON the CHANNEL that its least USER IS ON (by its ROW, OPEN, WAKES, and what is SHUT;");
        // 1 and 2 meet in slot 0; 2 alone would sweep to 0, where 0 waits
        x = waiting(0, 1, 1);
        x.set(2, 0, 1);
        s.is("the row of 2 is not gone by", x.run(200), 2);
        x = waiting(3, 1, 1);
        x.set(1, 0, 1);
        s.is("the row of 1 is: in slot 2 on 3", x.merge(), 3);
        s.is("all", x.userOf(2, 6), 3);
        // what is OPEN to 2 is only 1, yet it goes with 1 to 3
        x = waiting(3, 1, 1);
        x.set(1, 0, 1);
        x.open(2, 2);
        s.is("OPEN of the least", x.merge(), 3);
        // what is shut for 2 does not keep 1 away from 3
        x = waiting(3, 1, 1);
        x.set(1, 0, 1);
        x.shut(2, 3, 0, 500);
        s.is("SHUT for another than the least", x.merge(), 3);
        x.shut(1, 3, 0, 500);
        s.is("SHUT for the least", x.merge(), 503);

        says("NOWHERE, if that one is; the others go with it).");
        // 0 and 1 meet in slot 0, then 0 is nowhere; 2 sweeps to their channel in slot 3
        x = waiting(0, 0, 1);
        x.set(2, 0, 1);
        x.shut(0, 0, 1, 500);
        s.is("1 alone would meet 2 in slot 3", x.first(1, 2), 3);
        s.is("but goes with 0, which is nowhere till 501", x.merge(), 504);
        x = waiting(0, 1);
        x.open(0, 0);
        x.open(1, 0);
        s.is("two that are nowhere are on no channel", x.run(200), 2);
        x = waiting(0, 0);
        x.set(0, 3, 200);
        s.is("not awake", x.run(200), 2);
        s.is("awake", x.run(1), 1);

        says("In a slot GROUPS that are ON one CHANNEL become one.");
        x = waiting(0, 1, 0, 1, 0);
        s.is("three and two", x.run(1), 2);
        s.is("with 4", x.userOf(4, 6), 3);
        s.is("with 3", x.userOf(3, 6), 2);
        s.is("the least of 4", x.userOf(4, 5), 0);
        s.is("the least of 3", x.userOf(3, 5), 1);
        s.is("five", waiting(3, 3, 3, 3, 3).run(1), 1);
    }

    private void merged() {
        says("MERGED: one GROUP of all.");
        HopMeet x = waiting(0);
        s.is("one USER", x.told(7), 1);
        x.user(2, 0, 0, 0);
        s.is("two apart", x.told(7), 0);
        x.run(1);
        s.is("two as one", x.told(7), 1);
        x = waiting(0, 0, 1);
        x.run(200);
        s.is("two of three as one", x.told(7), 0);
    }

    private void common() {
        says("COMMON: CHANNELS OPEN to all USERS (a SET).");
        HopMeet x = new HopMeet();
        s.is("no USERS: all of four", x.told(4), 15);
        x.channels(10);
        s.is("no USERS: all of ten", x.told(4), 1023);
        x.user(0, 0, 0, 0);
        x.user(0, 0, 0, 0);
        s.is("all are OPEN", x.told(4), 1023);
        x.open(0, 512 + 2);
        s.is("OPEN to 0 alone does not count", x.told(4), 514);
        x.open(1, 512 + 1);
        s.is("the last one alone", x.told(4), 512);
        x.open(1, 1);
        s.is("none in common", x.told(4), 0);
        x.open(1, 0);
        s.is("none OPEN", x.told(4), 0);
        x.open(1, 1023);
        x.shut(-1, 9, 0, 500);
        s.is("what is shut is OPEN all the same", x.told(4), 514);
    }

    private void even() {
        says("EVEN of a USER over n slots of its CLOCK (from 0): how often the CHANNEL it is ON most often is, "
            + "less how often the one of its OPEN ones it is ON least often");
        HopMeet x = new HopMeet();
        x.user(1, 0, 0, 200);
        s.is("one slot of four channels: 1 less 0", x.even(0, 1), 1);
        s.is("three slots: 1 less 0", x.even(0, 3), 1);
        s.is("four slots: 1 less 1", x.even(0, 4), 0);
        s.is("five slots: 2 less 1", x.even(0, 5), 1);
        // OPEN 0, 1, 2: 0 1 2 0 and so on
        x.open(0, 7);
        s.is("what is not OPEN does not count: 1 less 1", x.even(0, 3), 0);
        s.is("2 less 1", x.even(0, 4), 1);
        x.open(0, 8);
        s.is("only one is OPEN: n less n", x.even(0, 1500), 0);
        x.open(0, 3);
        x.set(0, 0, 2);
        s.is("waits on one of two: n less 0", x.even(0, 1500), 1500);

        says("(spells do not count).");
        x.shut(-1, 0, 0, 500);
        x.shut(0, 0, 200, 500);
        s.is("even(0, 1500)", x.even(0, 1500), 1500);
        s.is("even(0, 1)", x.even(0, 1), 1);
    }

    private void together() {
        says("TOGETHER of two: in how many of the slots 0 to n less 1 they MEET.");
        HopMeet x = sweepAndWait(3);
        s.is("no slot", x.together(0, 1, 0), 0);
        s.is("slots 0 to 2", x.together(0, 1, 3), 0);
        s.is("slots 0 to 3", x.together(0, 1, 4), 1);
        s.is("slots 0 to 6", x.together(0, 1, 7), 1);
        s.is("slots 0 to 1499", x.together(0, 1, 1500), 375);
        s.is("slot 0 alone", waiting(0, 0).together(0, 1, 1), 1);
        x.shut(-1, 3, 3, 1);
        s.is("what is shut counts here", x.together(0, 1, 1500), 374);
    }

    private void lots() {
        says("BY LOTS of a SEED: X (the SEED at first) becomes what is left of (X times 16807) by 2147483647 ahead of each number wanted:");
        // 16807, 282475249, 1622650073, 984943658, 1144108930, 470211272, 101027544, 1457850878
        HopMeet x = waiting(0, 0);
        x.drift(1);
        s.is("16807 by 16, not 1", x.userOf(0, 4), 7);
        s.is("282475249 by 100", x.userOf(0, 1), 49);
        s.is("1622650073 by 100, more than an int holds ahead of it", x.userOf(0, 2), 73);
        // 127774 times 16807 is 2147497618, the first above 2147483647: 13971 is left
        x.drift(127774);
        s.is("13971 by 16", x.userOf(0, 4), 3);
        // 127773 times 16807 is 2147480811, the last below it
        x.drift(127773);
        s.is("2147480811 by 16", x.userOf(0, 4), 11);

        says("for each USER, rising: OPEN X left over by 2 to the N, START X left over by 100, "
            + "STEP X left over by 100, WAKES X left over by 50.");
        x = waiting(0, 0);
        x.drift(1);
        int[][] want = {{2, 49, 73, 8, 7}, {2, 72, 44, 28, 2}};
        for (int u = 0; u < 2; u++) {
            for (int what = 0; what < 5; what++) {
                s.is("userOf(" + u + ", " + what + ")", x.userOf(u, what), want[u][what]);
            }
        }
        x.channels(10);
        x.user(0, 0, 0, 0);
        x.drift(1);
        s.is("16807 by 1024", x.userOf(0, 4), 423);
        x.channels(2);
        x.user(0, 0, 0, 0);
        x.drift(1);
        s.is("16807 by 4", x.userOf(0, 4), 3);
        lotsOfFive();
    }

    private void lotsOfFive() {
        HopMeet x = waiting(0, 1, 2, 3, 4);
        x.drift(999999);
        long lot = 999999;
        for (int u = 0; u < 5; u++) {
            for (int what : new int[] {4, 1, 2, 3}) {
                lot = lot * 16807 % 2147483647;
                s.is("of five: userOf(" + u + ", " + what + ")", x.userOf(u, what), lot % new int[] {1, 100, 100, 50, 16}[what]);
            }
        }
    }

    private void undone() {
        says("UNDONE: the latest of user(), open(), set(), shut(), drift() that was not refused");
        HopMeet x = new HopMeet();
        x.user(0, 1, 2, 3);
        s.is("user()", x.told(8), 1);
        x.open(0, 5);
        s.is("open()", x.told(8), 2);
        x.set(0, 1, 4);
        s.is("set()", x.told(8), 3);
        x.shut(0, 0, 0, 1);
        s.is("shut()", x.told(8), 4);
        x.drift(6);
        s.is("drift()", x.told(8), 5);
        x.user(4, 0, 0, 0);
        x.open(0, 16);
        x.set(0, 1, 100);
        x.shut(0, 0, 0, 0);
        x.drift(0);
        s.is("none that were refused", x.told(8), 5);
        x.run(1);
        x.merge();
        x.part();
        x.keep(0);
        x.told(0);
        s.is("and no other call", x.told(8), 5);

        says("USERS, spells are as ahead of it;");
        s.is("drift() undone", x.undo(), 4);
        s.is("START", x.userOf(0, 1), 4);
        s.is("OPEN", x.userOf(0, 4), 5);
        s.is("shut() undone", x.undo(), 3);
        s.is("spells", x.told(3), 0);
        s.is("set() undone", x.undo(), 2);
        s.is("START", x.userOf(0, 1), 1);
        s.is("open() undone", x.undo(), 1);
        s.is("OPEN", x.userOf(0, 4), 15);
        s.is("user() undone", x.undo(), 0);
        s.is("USERS", x.told(2), 0);
        HopMeet full = full();
        full.drift(3);
        s.is("of five USERS and eight spells", full.undo(), 11);
        isFull(full);
    }

    /** As many USERS and spells as there can be. */
    private static HopMeet full() {
        HopMeet x = waiting(0, 1, 2, 3, 0);
        for (int spell = 0; spell < 8; spell++) {
            x.shut(spell % 6 - 1, spell % 4, 10 * spell, spell + 1);
        }
        return x;
    }

    private void isFull(HopMeet x) {
        s.is("USERS", x.told(2), 5);
        s.is("spells", x.told(3), 8);
        s.is("START of the last USER", x.userOf(4, 1), 0);
        s.is("OPEN of the last USER", x.userOf(4, 4), 15);
        // the first shuts 0 for all in slot 0, the last shuts 3 for USER 0 in slots 70 to 77
        s.is("the first spell", x.why(4, 0), 3);
        s.is("and no longer", x.why(4, 1), 0);
        s.is("the last spell is not for USER 3", x.why(3, 70), 0);
        x.set(0, 1, 3);
        s.is("from slot 70 on", x.why(0, 69), 0);
        s.is("from slot 70 on", x.why(0, 70), 3);
        s.is("for eight slots", x.why(0, 77), 3);
        s.is("for eight slots", x.why(0, 78), 0);
    }

    private void twelve() {
        says("(12 at most are kept, the oldest are lost):");
        HopMeet x = waiting(0);
        for (int v = 1; v <= 11; v++) {
            x.set(0, 1, v);
        }
        s.is("twelve", x.told(8), 12);
        x.set(0, 1, 12);
        s.is("twelve of thirteen", x.told(8), 12);
        for (int left = 11; left >= 0; left--) {
            s.is("undo()", x.undo(), left);
            s.is("START", x.userOf(0, 1), left);
        }
        s.not("the oldest, user(), is lost", x.undo());
        s.is("USERS", x.told(2), 1);
    }

    private void begunAnew() {
        says("RUN begins anew by each change, and by undo().");
        String[] calls = {"user()", "open()", "set()", "shut()", "drift()", "channels()", "undo()"};
        for (int change = 0; change < calls.length; change++) {
            HopMeet x = waiting(1, 1);
            x.run(3);
            s.is("ahead of " + calls[change] + ": GROUPS", x.told(6), 1);
            int users = change == 0 ? 3 : change == 5 ? 0 : change == 6 ? 1 : 2;
            switch (change) {
                case 0: x.user(2, 1, 0, 0); break;
                case 1: x.open(0, 15); break;
                case 2: x.set(0, 1, 1); break;
                case 3: x.shut(0, 0, 0, 1); break;
                case 4: x.drift(9); break;
                case 5: x.channels(4); break;
                default: x.undo(); break;
            }
            s.is(calls[change] + ": slots", x.told(5), 0);
            s.is(calls[change] + ": GROUPS", x.told(6), users);
        }
    }

    private void images() {
        says("IMAGES 0, 1 keep USERS, spells, N.");
        HopMeet x = new HopMeet();
        x.channels(7);
        x.user(3, 97, 98, 199);
        x.open(0, 100);
        x.shut(0, 6, 1500, 500);
        x.keep(0);
        x.channels(3);
        x.keep(1);
        x.channels(10);
        s.is("goBack(0)", x.goBack(0), 1);
        s.is("N", x.told(0), 7);
        s.is("PRIME", x.told(1), 11);
        s.is("spells", x.told(3), 1);
        int[] want = {3, 97, 98, 199, 100};
        for (int what = 0; what < want.length; what++) {
            s.is("userOf(0, " + what + ")", x.userOf(0, what), want[what]);
        }
        s.is("goBack(1)", x.goBack(1), 0);
        s.is("N", x.told(0), 3);
        s.is("PRIME", x.told(1), 5);
        s.unknown("there is no IMAGE 2", x.keep(2));
        x = full();
        s.is("five USERS and eight spells", x.keep(1), 5);
        x.channels(2);
        s.is("goBack(1)", x.goBack(1), 5);
        isFull(x);
    }
}
