/** Users who hop over channels, each by a row and a clock of its own, and where and when they meet. */
public final class HopMeet {
    public static final int NONE = -1, NEVER = 99999, UNKNOWN = -1000000001, OUTSIDE = -1000000002, NOT = -1000000003, FULL = -1000000004;

    private static final int LEAST_CHANNELS = 2, MOST_CHANNELS = 10, CHANNELS_AT_FIRST = 4;
    private static final int MOST_USERS = 5, MOST_SPELLS = 8, MOST_UNDONE = 12, IMAGE_COUNT = 2;
    private static final int LAST_SLOT_ASKED = 3000, LAST_SLOT_SHUT = 1500, LONGEST_SPELL = 500;
    private static final int MEETING_SLOTS = 1500, MOST_SHIFT = 200, MOST_BOUND = 1500;
    private static final int MOST_SLOTS_RUN = 3000, LONGEST_RUN = 200, LONGEST_MERGE = 1500;
    private static final int MOST_SEED = 999999;

    // What a user has, by the numbers that set() and userOf() give it.
    private static final int ROW = 0, START = 1, STEP = 2, WAKES = 3, OPEN = 4, LEAST_OF_GROUP = 5, SIZE_OF_GROUP = 6;
    private static final int[] MOST_OF = {3, 99, 99, 200};
    private static final int JUMPS_AND_STAYS = 0, SWEEPS = 1, WAITS = 2;

    private static final int SPELL_USER = 0, SPELL_CHANNEL = 1, SPELL_SLOT = 2, SPELL_LENGTH = 3;

    private static final int NOT_AWAKE = 1, NONE_OPEN = 2, SHUT_THEN = 3;

    private static final long LOT_FACTOR = 16807L, LOT_MODULUS = 2147483647L;
    private static final int LOTS_OF_START = 100, LOTS_OF_STEP = 100, LOTS_OF_WAKES = 50;

    private final Scene now;
    private final Past past;
    private final Scene[] images;
    private final boolean[] wasKept;
    private final Groups groups;
    // Made once and used again: many calls share one room.
    private final int[] placesOfFirst;
    private final int[] placesOfSecond;
    private final int[] timesOn;

    public HopMeet() {
        now = new Scene();
        past = new Past();
        images = new Scene[IMAGE_COUNT];
        for (int i = 0; i < IMAGE_COUNT; i++) {
            images[i] = new Scene();
        }
        wasKept = new boolean[IMAGE_COUNT];
        groups = new Groups();
        placesOfFirst = new int[MEETING_SLOTS + MOST_SHIFT];
        placesOfSecond = new int[MEETING_SLOTS];
        timesOn = new int[MOST_CHANNELS];
    }

    // ---- users, channels

    public int channels(int n) {
        if (n < LEAST_CHANNELS || n > MOST_CHANNELS) {
            return OUTSIDE;
        }
        now.clear(n);
        past.forget();
        groups.begin(0);
        return now.prime;
    }

    public int user(int row, int start, int step, int wakes) {
        if (!mayHave(ROW, row) || !mayHave(START, start) || !mayHave(STEP, step) || !mayHave(WAKES, wakes)) {
            return OUTSIDE;
        }
        if (now.userCount >= MOST_USERS) {
            return FULL;
        }
        past.remember(now);
        now.addUser(row, start, step, wakes);
        groups.begin(now.userCount);
        return now.userCount - 1;
    }

    public int open(int u, int set) {
        if (!isUser(u)) {
            return UNKNOWN;
        }
        if (set < 0 || set > now.allChannels()) {
            return OUTSIDE;
        }
        return change(u, OPEN, set);
    }

    public int set(int u, int what, int v) {
        if (!isUser(u)) {
            return UNKNOWN;
        }
        if (!mayHave(what, v)) {
            return OUTSIDE;
        }
        return change(u, what, v);
    }

    public int shut(int u, int channel, int slot, int many) {
        if (u != NONE && !isUser(u)) {
            return UNKNOWN;
        }
        if (channel < 0 || channel >= now.channelCount) {
            return UNKNOWN;
        }
        if (slot < 0 || slot > LAST_SLOT_SHUT || many < 1 || many > LONGEST_SPELL) {
            return OUTSIDE;
        }
        if (now.spellCount >= MOST_SPELLS) {
            return FULL;
        }
        past.remember(now);
        now.addSpell(u, channel, slot, many);
        groups.begin(now.userCount);
        return now.spellCount;
    }

    public int drift(int seed) {
        if (seed < 1 || seed > MOST_SEED) {
            return OUTSIDE;
        }
        if (now.userCount == 0) {
            return NOT;
        }
        past.remember(now);
        now.drawLots(seed);
        groups.begin(now.userCount);
        return now.commonChannels();
    }

    public int undo() {
        if (past.count == 0) {
            return NOT;
        }
        past.restore(now);
        groups.begin(now.userCount);
        return past.count;
    }

    public int told(int what) {
        switch (what) {
            case 0: return now.channelCount;
            case 1: return now.prime;
            case 2: return now.userCount;
            case 3: return now.spellCount;
            case 4: return now.commonChannels();
            case 5: return groups.slotsRun;
            case 6: return groups.howMany();
            case 7: return groups.howMany() == 1 ? 1 : 0;
            case 8: return past.count;
            default: return OUTSIDE;
        }
    }

    public int userOf(int u, int what) {
        if (!isUser(u)) {
            return UNKNOWN;
        }
        if (what < ROW || what > SIZE_OF_GROUP) {
            return OUTSIDE;
        }
        if (what == LEAST_OF_GROUP) {
            return groups.least[u];
        }
        if (what == SIZE_OF_GROUP) {
            return groups.sizeOfGroupOf(u);
        }
        return now.users[u][what];
    }

    // ---- where one is

    public int pointsAt(int u, int t) {
        if (!isUser(u)) {
            return UNKNOWN;
        }
        if (!isSlotAsked(t)) {
            return OUTSIDE;
        }
        int clock = now.clockOf(u, t);
        return clock < 0 ? NONE : now.aim(u, clock);
    }

    public int on(int u, int t) {
        if (!isUser(u)) {
            return UNKNOWN;
        }
        return isSlotAsked(t) ? now.place(u, t) : OUTSIDE;
    }

    public int why(int u, int t) {
        if (!isUser(u)) {
            return UNKNOWN;
        }
        return isSlotAsked(t) ? now.whyNowhere(u, t) : OUTSIDE;
    }

    // ---- meeting

    public int first(int u, int v) {
        if (!areTwoUsers(u, v)) {
            return UNKNOWN;
        }
        for (int t = 0; t < MEETING_SLOTS; t++) {
            if (now.meet(u, v, t)) {
                return t;
            }
        }
        return NONE;
    }

    public int worst(int u, int v, int d) {
        if (!areTwoUsers(u, v)) {
            return UNKNOWN;
        }
        return isShift(d) ? worstOfShifts(u, v, d) : OUTSIDE;
    }

    public int bound(int u, int v, int d, int b) {
        if (!areTwoUsers(u, v)) {
            return UNKNOWN;
        }
        if (!isShift(d) || b < 0 || b > MOST_BOUND) {
            return OUTSIDE;
        }
        return worstOfShifts(u, v, d) <= b ? 1 : 0;
    }

    public int together(int u, int v, int n) {
        if (!areTwoUsers(u, v)) {
            return UNKNOWN;
        }
        if (n < 0 || n > MEETING_SLOTS) {
            return OUTSIDE;
        }
        int slots = 0;
        for (int t = 0; t < n; t++) {
            if (now.meet(u, v, t)) {
                slots++;
            }
        }
        return slots;
    }

    public int even(int u, int n) {
        if (!isUser(u)) {
            return UNKNOWN;
        }
        if (n < 1 || n > MEETING_SLOTS) {
            return OUTSIDE;
        }
        int open = now.users[u][OPEN];
        if (open == 0) {
            return 0;
        }
        countTimesOn(u, n);
        int most = 0;
        int least = n;
        for (int k = 0; k < now.channelCount; k++) {
            if (Scene.holds(open, k)) {
                most = Math.max(most, timesOn[k]);
                least = Math.min(least, timesOn[k]);
            }
        }
        return most - least;
    }

    // ---- together

    public int run(int n) {
        if (n < 1 || n > LONGEST_RUN) {
            return OUTSIDE;
        }
        if (now.userCount == 0) {
            return NOT;
        }
        if (groups.slotsRun >= MOST_SLOTS_RUN) {
            return FULL;
        }
        for (int i = 0; i < n && groups.slotsRun < MOST_SLOTS_RUN; i++) {
            groups.runSlot(now);
        }
        return groups.howMany();
    }

    public int merge() {
        if (now.userCount == 0) {
            return NOT;
        }
        for (int i = 0; i < LONGEST_MERGE && groups.slotsRun < MOST_SLOTS_RUN && groups.howMany() > 1; i++) {
            groups.runSlot(now);
        }
        return groups.slotsRun;
    }

    public int part() {
        int slots = groups.slotsRun;
        groups.begin(now.userCount);
        return slots;
    }

    // ---- images

    public int keep(int i) {
        if (!isImage(i)) {
            return UNKNOWN;
        }
        images[i].become(now);
        wasKept[i] = true;
        return now.userCount;
    }

    public int goBack(int i) {
        if (!isImage(i)) {
            return UNKNOWN;
        }
        if (!wasKept[i]) {
            return NOT;
        }
        now.become(images[i]);
        past.forget();
        groups.begin(now.userCount);
        return now.userCount;
    }

    // ---- what the calls share

    private boolean isUser(int u) {
        return u >= 0 && u < now.userCount;
    }

    private boolean areTwoUsers(int u, int v) {
        return isUser(u) && isUser(v) && u != v;
    }

    private static boolean isImage(int i) {
        return i >= 0 && i < IMAGE_COUNT;
    }

    private static boolean isSlotAsked(int t) {
        return t >= 0 && t <= LAST_SLOT_ASKED;
    }

    private static boolean isShift(int d) {
        return d >= 0 && d <= MOST_SHIFT;
    }

    private static boolean mayHave(int what, int v) {
        return what >= ROW && what <= WAKES && v >= 0 && v <= MOST_OF[what];
    }

    private int change(int u, int what, int v) {
        past.remember(now);
        int was = now.users[u][what];
        now.users[u][what] = v;
        groups.begin(now.userCount);
        return was;
    }

    private int worstOfShifts(int u, int v, int d) {
        // Every shift looks at the same places again, so they are reckoned once.
        for (int clock = 0; clock < MEETING_SLOTS + d; clock++) {
            placesOfFirst[clock] = now.placeByClock(u, clock);
        }
        for (int clock = 0; clock < MEETING_SLOTS; clock++) {
            placesOfSecond[clock] = now.placeByClock(v, clock);
        }
        int worst = 0;
        for (int shift = 0; shift <= d && worst < NEVER; shift++) {
            worst = Math.max(worst, slotsToMeet(shift));
        }
        return worst;
    }

    private int slotsToMeet(int shift) {
        for (int clock = 0; clock < MEETING_SLOTS; clock++) {
            int place = placesOfSecond[clock];
            if (place != NONE && place == placesOfFirst[clock + shift]) {
                return clock;
            }
        }
        return NEVER;
    }

    private void countTimesOn(int u, int n) {
        for (int k = 0; k < MOST_CHANNELS; k++) {
            timesOn[k] = 0;
        }
        for (int clock = 0; clock < n; clock++) {
            int place = now.placeByClock(u, clock);
            if (place >= 0 && place < MOST_CHANNELS) {
                timesOn[place]++;
            }
        }
    }

    /** Channels, users and spells: all that an image keeps and that undo() brings back. */
    private static final class Scene {
        int channelCount;
        int prime;
        int userCount;
        int spellCount;
        final int[][] users;
        final int[][] spells;

        Scene() {
            users = new int[MOST_USERS][OPEN + 1];
            spells = new int[MOST_SPELLS][SPELL_LENGTH + 1];
            clear(CHANNELS_AT_FIRST);
        }

        void clear(int channels) {
            channelCount = channels;
            prime = primeAbove(channels);
            userCount = 0;
            spellCount = 0;
        }

        void become(Scene other) {
            channelCount = other.channelCount;
            prime = other.prime;
            userCount = other.userCount;
            spellCount = other.spellCount;
            for (int u = 0; u < userCount; u++) {
                System.arraycopy(other.users[u], 0, users[u], 0, OPEN + 1);
            }
            for (int s = 0; s < spellCount; s++) {
                System.arraycopy(other.spells[s], 0, spells[s], 0, SPELL_LENGTH + 1);
            }
        }

        void addUser(int row, int start, int step, int wakes) {
            int[] user = users[userCount];
            user[ROW] = row;
            user[START] = start;
            user[STEP] = step;
            user[WAKES] = wakes;
            user[OPEN] = allChannels();
            userCount++;
        }

        void addSpell(int u, int channel, int slot, int many) {
            int[] spell = spells[spellCount];
            spell[SPELL_USER] = u;
            spell[SPELL_CHANNEL] = channel;
            spell[SPELL_SLOT] = slot;
            spell[SPELL_LENGTH] = many;
            spellCount++;
        }

        void drawLots(int seed) {
            long x = seed;
            int sets = allChannels() + 1;
            for (int u = 0; u < userCount; u++) {
                int[] user = users[u];
                x = nextLot(x);
                user[OPEN] = remainder((int) x, sets);
                x = nextLot(x);
                user[START] = remainder((int) x, LOTS_OF_START);
                x = nextLot(x);
                user[STEP] = remainder((int) x, LOTS_OF_STEP);
                x = nextLot(x);
                user[WAKES] = remainder((int) x, LOTS_OF_WAKES);
            }
        }

        int allChannels() {
            return (1 << channelCount) - 1;
        }

        int commonChannels() {
            int common = allChannels();
            for (int u = 0; u < userCount; u++) {
                common &= users[u][OPEN];
            }
            return common;
        }

        int clockOf(int u, int slot) {
            return slot - users[u][WAKES];
        }

        int aim(int u, int clock) {
            int[] user = users[u];
            int start = user[START];
            int jump = 1 + remainder(user[STEP], channelCount);
            switch (user[ROW]) {
                case JUMPS_AND_STAYS: return aimOfJumpAndStay(start, jump, clock);
                case SWEEPS: return remainder(start + clock, channelCount);
                case WAITS: return remainder(start, channelCount);
                default: return remainder(remainder(start + clock * jump, prime), channelCount);
            }
        }

        private int aimOfJumpAndStay(int start, int jump, int clock) {
            int round = quotient(clock, 3 * prime);
            int inRound = remainder(clock, 3 * prime);
            int jumpNow = 1 + remainder(jump - 1 + quotient(round, prime), channelCount);
            int target = inRound < 2 * prime ? remainder(start + round + inRound * jumpNow, prime) : jumpNow;
            return remainder(target, channelCount);
        }

        /** Where a user is by its clock, as if nothing were shut; NONE if no channel is open to it. */
        int placeByClock(int u, int clock) {
            int open = users[u][OPEN];
            if (open == 0) {
                return NONE;
            }
            int channel = aim(u, clock);
            return holds(open, channel) ? channel : memberWithNumber(open, remainder(channel, Integer.bitCount(open)));
        }

        int place(int u, int slot) {
            int clock = clockOf(u, slot);
            if (clock < 0) {
                return NONE;
            }
            int channel = placeByClock(u, clock);
            return isShut(u, channel, slot) ? NONE : channel;
        }

        int whyNowhere(int u, int slot) {
            int clock = clockOf(u, slot);
            if (clock < 0) {
                return NOT_AWAKE;
            }
            int channel = placeByClock(u, clock);
            if (channel == NONE) {
                return NONE_OPEN;
            }
            return isShut(u, channel, slot) ? SHUT_THEN : 0;
        }

        boolean meet(int u, int v, int slot) {
            int channel = place(u, slot);
            return channel != NONE && channel == place(v, slot);
        }

        private boolean isShut(int u, int channel, int slot) {
            for (int s = 0; s < spellCount; s++) {
                int[] spell = spells[s];
                boolean concerns = spell[SPELL_CHANNEL] == channel && (spell[SPELL_USER] == NONE || spell[SPELL_USER] == u);
                int since = slot - spell[SPELL_SLOT];
                if (concerns && since >= 0 && since < spell[SPELL_LENGTH]) {
                    return true;
                }
            }
            return false;
        }

        static boolean holds(int set, int k) {
            return (set >> k & 1) == 1;
        }

        // What an object holds is a divisor only here, behind a test, so that no division can fail.
        private static int quotient(int number, int divisor) {
            return divisor > 0 ? number / divisor : 0;
        }

        private static int remainder(int number, int divisor) {
            return divisor > 0 ? number % divisor : 0;
        }

        private static int memberWithNumber(int set, int number) {
            int left = number;
            for (int k = 0; k < MOST_CHANNELS; k++) {
                if (holds(set, k)) {
                    if (left == 0) {
                        return k;
                    }
                    left--;
                }
            }
            return NONE;
        }

        private static int primeAbove(int n) {
            int candidate = n + 1;
            // Between a number and its double there is always a prime.
            while (candidate < 2 * n && !isPrime(candidate)) {
                candidate++;
            }
            return candidate;
        }

        private static boolean isPrime(int n) {
            for (int k = 2; k < n; k++) {
                if (n % k == 0) {
                    return false;
                }
            }
            return true;
        }

        private static long nextLot(long x) {
            return x * LOT_FACTOR % LOT_MODULUS;
        }
    }

    /** The latest scenes, each as it was ahead of a change; the oldest gives way when all places are taken. */
    private static final class Past {
        final Scene[] scenes;
        int next;
        int count;

        Past() {
            scenes = new Scene[MOST_UNDONE];
            for (int i = 0; i < MOST_UNDONE; i++) {
                scenes[i] = new Scene();
            }
        }

        void forget() {
            next = 0;
            count = 0;
        }

        void remember(Scene scene) {
            scenes[next].become(scene);
            next = (next + 1) % MOST_UNDONE;
            count = Math.min(count + 1, MOST_UNDONE);
        }

        void restore(Scene scene) {
            next = (next + MOST_UNDONE - 1) % MOST_UNDONE;
            scene.become(scenes[next]);
            count--;
        }
    }

    /** Who goes with whom, and how many slots were run to come to that. */
    private static final class Groups {
        int slotsRun;
        int userCount;
        final int[] least;
        final int[] leaderOn;

        Groups() {
            least = new int[MOST_USERS];
            leaderOn = new int[MOST_CHANNELS];
        }

        void begin(int users) {
            slotsRun = 0;
            userCount = users;
            for (int u = 0; u < users; u++) {
                least[u] = u;
            }
        }

        int howMany() {
            int many = 0;
            for (int u = 0; u < userCount; u++) {
                if (least[u] == u) {
                    many++;
                }
            }
            return many;
        }

        int sizeOfGroupOf(int u) {
            int size = 0;
            for (int v = 0; v < userCount; v++) {
                if (least[v] == least[u]) {
                    size++;
                }
            }
            return size;
        }

        void runSlot(Scene scene) {
            for (int k = 0; k < MOST_CHANNELS; k++) {
                leaderOn[k] = NONE;
            }
            for (int u = 0; u < userCount; u++) {
                if (least[u] == u) {
                    settle(u, scene.place(u, slotsRun));
                }
            }
            slotsRun++;
        }

        private void settle(int leader, int channel) {
            if (channel < 0 || channel >= MOST_CHANNELS) {
                return;
            }
            // Leaders come rising, so the first one on a channel is the least there.
            if (leaderOn[channel] == NONE) {
                leaderOn[channel] = leader;
            } else {
                join(leader, leaderOn[channel]);
            }
        }

        private void join(int leader, int lesserLeader) {
            for (int u = 0; u < userCount; u++) {
                if (least[u] == leader) {
                    least[u] = lesserLeader;
                }
            }
        }
    }
}
