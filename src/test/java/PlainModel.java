import java.util.ArrayList;
import java.util.HashMap;
import java.util.List;
import java.util.Map;
import java.util.TreeMap;

/**
 * The document once more, as slow and as plain as can be, to hold the program against: every change makes
 * a new situation, what was run is run again from slot 0 for each question, shifts are tried with changed users.
 */
final class PlainModel {
    private static final int[] PRIMES = {0, 0, 3, 5, 5, 7, 7, 11, 11, 11, 11};
    private static final int NONE = -1, NEVER = 99999, UNKNOWN = -1000000001, OUTSIDE = -1000000002, NOT = -1000000003, FULL = -1000000004;

    private record User(int row, int start, int step, int wakes, int open) {
        User with(int what, int v) {
            return new User(what == 0 ? v : row, what == 1 ? v : start, what == 2 ? v : step, what == 3 ? v : wakes, what == 4 ? v : open);
        }

        int of(int what) {
            return new int[] {row, start, step, wakes, open}[what];
        }
    }

    private record Spell(int user, int channel, int from, int to) { }

    private record Situation(int n, List<User> users, List<Spell> spells) {
        int all() {
            return (int) Math.pow(2, n) - 1;
        }

        int common() {
            int set = 0;
            for (int k = 0; k < n; k++) {
                int bit = 1 << k;
                set += users.stream().allMatch(w -> (w.open & bit) != 0) ? bit : 0;
            }
            return set;
        }

        Situation withUser(int u, User user) {
            List<User> changed = new ArrayList<>(users);
            if (u == changed.size()) {
                changed.add(user);
            } else {
                changed.set(u, user);
            }
            return new Situation(n, changed, spells);
        }

        Situation withSpell(Spell spell) {
            List<Spell> more = new ArrayList<>(spells);
            more.add(spell);
            return new Situation(n, users, more);
        }

        int pointsAtByClock(User w, int c) {
            int p = PRIMES[n];
            int s = w.start;
            int j = w.step % n + 1;
            if (w.row == 1) {
                return (s + c) % n;
            }
            if (w.row == 2) {
                return s % n;
            }
            if (w.row == 3) {
                return (s + c * j) % p % n;
            }
            int k = 0;
            int r = c;
            while (r >= 3 * p) {
                r -= 3 * p;
                k++;
            }
            for (int more = k / p; more > 0; more--) {
                j = j == n ? 1 : j + 1;
            }
            return (r < 2 * p ? (s + k + r * j) % p : j) % n;
        }

        int onByClock(User w, int c) {
            List<Integer> open = new ArrayList<>();
            for (int k = 0; k < n; k++) {
                if ((w.open >> k) % 2 == 1) {
                    open.add(k);
                }
            }
            int at = pointsAtByClock(w, c);
            if (open.isEmpty() || open.contains(at)) {
                return open.isEmpty() ? NONE : at;
            }
            return open.get(at % open.size());
        }

        int why(int u, int t) {
            User w = users.get(u);
            if (t < w.wakes) {
                return 1;
            }
            int at = onByClock(w, t - w.wakes);
            if (at == NONE) {
                return 2;
            }
            for (Spell spell : spells) {
                boolean forIt = spell.user == u || spell.user == NONE;
                if (forIt && spell.channel == at && t >= spell.from && t < spell.to) {
                    return 3;
                }
            }
            return 0;
        }

        int on(int u, int t) {
            User w = users.get(u);
            return why(u, t) == 0 ? onByClock(w, t - w.wakes) : NONE;
        }

        boolean meet(int u, int v, int t) {
            return on(u, t) != NONE && on(u, t) == on(v, t);
        }
    }

    private Situation now = new Situation(4, List.of(), List.of());
    private final List<Situation> past = new ArrayList<>();
    private final Map<Integer, Situation> images = new HashMap<>();
    private int slots;

    private void become(Situation next) {
        now = next;
        slots = 0;
    }

    private void change(Situation next) {
        past.add(now);
        if (past.size() > 12) {
            past.remove(0);
        }
        become(next);
    }

    private boolean strange(int u) {
        return u < 0 || u >= now.users.size();
    }

    private boolean strange(int u, int v) {
        return strange(u) || strange(v) || u == v;
    }

    private static boolean out(int v, int least, int most) {
        return v < least || v > most;
    }

    private static boolean outOf(int what, int v) {
        return out(v, 0, new int[] {3, 99, 99, 200}[what]);
    }

    private List<List<Integer>> groups() {
        List<List<Integer>> groups = new ArrayList<>();
        for (int u = 0; u < now.users.size(); u++) {
            groups.add(new ArrayList<>(List.of(u)));
        }
        for (int t = 0; t < slots; t++) {
            groups = groupsAfter(groups, t);
        }
        return groups;
    }

    private List<List<Integer>> groupsAfter(List<List<Integer>> groups, int t) {
        if (groups.size() < 2) {
            return groups;
        }
        Map<Integer, List<Integer>> byChannel = new TreeMap<>();
        List<List<Integer>> after = new ArrayList<>();
        for (List<Integer> group : groups) {
            int at = now.on(group.stream().mapToInt(u -> u).min().getAsInt(), t);
            if (at != NONE && byChannel.containsKey(at)) {
                byChannel.get(at).addAll(group);
            } else {
                after.add(group);
                byChannel.put(at == NONE ? -1 - after.size() : at, group);
            }
        }
        return after;
    }

    private List<Integer> groupOf(int u) {
        for (List<Integer> group : groups()) {
            if (group.contains(u)) {
                return group;
            }
        }
        throw new IllegalStateException("no group of " + u);
    }

    int channels(int n) {
        if (out(n, 2, 10)) {
            return OUTSIDE;
        }
        past.clear();
        become(new Situation(n, List.of(), List.of()));
        return PRIMES[n];
    }

    int user(int row, int start, int step, int wakes) {
        if (outOf(0, row) || outOf(1, start) || outOf(2, step) || outOf(3, wakes)) {
            return OUTSIDE;
        }
        int u = now.users.size();
        if (u == 5) {
            return FULL;
        }
        change(now.withUser(u, new User(row, start, step, wakes, now.all())));
        return u;
    }

    int open(int u, int set) {
        if (strange(u)) {
            return UNKNOWN;
        }
        return out(set, 0, now.all()) ? OUTSIDE : put(u, 4, set);
    }

    int set(int u, int what, int v) {
        if (strange(u)) {
            return UNKNOWN;
        }
        return out(what, 0, 3) || outOf(what, v) ? OUTSIDE : put(u, what, v);
    }

    private int put(int u, int what, int v) {
        User was = now.users.get(u);
        change(now.withUser(u, was.with(what, v)));
        return was.of(what);
    }

    int shut(int u, int channel, int slot, int many) {
        if (u != NONE && strange(u) || out(channel, 0, now.n - 1)) {
            return UNKNOWN;
        }
        if (out(slot, 0, 1500) || out(many, 1, 500)) {
            return OUTSIDE;
        }
        if (now.spells.size() == 8) {
            return FULL;
        }
        change(now.withSpell(new Spell(u, channel, slot, slot + many)));
        return now.spells.size();
    }

    int drift(int seed) {
        if (out(seed, 1, 999999)) {
            return OUTSIDE;
        }
        if (now.users.isEmpty()) {
            return NOT;
        }
        long x = seed;
        int[] whats = {4, 1, 2, 3};
        int[] below = {now.all() + 1, 100, 100, 50};
        Situation next = now;
        for (int u = 0; u < now.users.size(); u++) {
            for (int i = 0; i < 4; i++) {
                x = Math.floorMod(x * 16807L, 2147483647L);
                next = next.withUser(u, next.users.get(u).with(whats[i], (int) (x % below[i])));
            }
        }
        change(next);
        return now.common();
    }

    int undo() {
        if (past.isEmpty()) {
            return NOT;
        }
        become(past.remove(past.size() - 1));
        return past.size();
    }

    int told(int what) {
        switch (what) {
            case 0: return now.n;
            case 1: return PRIMES[now.n];
            case 2: return now.users.size();
            case 3: return now.spells.size();
            case 4: return now.common();
            case 5: return slots;
            case 6: return groups().size();
            case 7: return groups().size() == 1 ? 1 : 0;
            case 8: return past.size();
            default: return OUTSIDE;
        }
    }

    int userOf(int u, int what) {
        if (strange(u)) {
            return UNKNOWN;
        }
        if (out(what, 0, 6)) {
            return OUTSIDE;
        }
        if (what < 5) {
            return now.users.get(u).of(what);
        }
        List<Integer> group = groupOf(u);
        return what == 5 ? group.stream().mapToInt(v -> v).min().getAsInt() : group.size();
    }

    int pointsAt(int u, int t) {
        if (strange(u)) {
            return UNKNOWN;
        }
        if (out(t, 0, 3000)) {
            return OUTSIDE;
        }
        User w = now.users.get(u);
        return t < w.wakes ? NONE : now.pointsAtByClock(w, t - w.wakes);
    }

    int on(int u, int t) {
        if (strange(u)) {
            return UNKNOWN;
        }
        return out(t, 0, 3000) ? OUTSIDE : now.on(u, t);
    }

    int why(int u, int t) {
        if (strange(u)) {
            return UNKNOWN;
        }
        return out(t, 0, 3000) ? OUTSIDE : now.why(u, t);
    }

    int first(int u, int v) {
        if (strange(u, v)) {
            return UNKNOWN;
        }
        for (int t = 0; t < 1500; t++) {
            if (now.meet(u, v, t)) {
                return t;
            }
        }
        return NONE;
    }

    int worst(int u, int v, int d) {
        if (strange(u, v)) {
            return UNKNOWN;
        }
        if (out(d, 0, 200)) {
            return OUTSIDE;
        }
        int worst = 0;
        for (int shift = 0; shift <= d && worst < NEVER; shift++) {
            worst = Math.max(worst, shifted(u, v, shift));
        }
        return worst;
    }

    private int shifted(int u, int v, int shift) {
        int bothAwake = now.users.get(u).wakes + shift;
        Situation situation = new Situation(now.n, now.users, List.of());
        situation = situation.withUser(v, now.users.get(v).with(3, bothAwake));
        for (int i = 0; i < 1500; i++) {
            if (situation.meet(u, v, bothAwake + i)) {
                return i;
            }
        }
        return NEVER;
    }

    int bound(int u, int v, int d, int b) {
        if (strange(u, v)) {
            return UNKNOWN;
        }
        if (out(d, 0, 200) || out(b, 0, 1500)) {
            return OUTSIDE;
        }
        return worst(u, v, d) <= b ? 1 : 0;
    }

    int together(int u, int v, int n) {
        if (strange(u, v)) {
            return UNKNOWN;
        }
        if (out(n, 0, 1500)) {
            return OUTSIDE;
        }
        int often = 0;
        for (int t = 0; t < n; t++) {
            often += now.meet(u, v, t) ? 1 : 0;
        }
        return often;
    }

    int even(int u, int n) {
        if (strange(u)) {
            return UNKNOWN;
        }
        if (out(n, 1, 1500)) {
            return OUTSIDE;
        }
        User w = now.users.get(u);
        Map<Integer, Integer> often = new TreeMap<>();
        for (int k = 0; k < now.n; k++) {
            if ((w.open >> k) % 2 == 1) {
                often.put(k, 0);
            }
        }
        if (often.isEmpty()) {
            return 0;
        }
        for (int c = 0; c < n; c++) {
            often.merge(now.onByClock(w, c), 1, Integer::sum);
        }
        List<Integer> sorted = new ArrayList<>(often.values());
        sorted.sort(null);
        return sorted.get(sorted.size() - 1) - sorted.get(0);
    }

    int run(int n) {
        if (out(n, 1, 200)) {
            return OUTSIDE;
        }
        if (now.users.isEmpty()) {
            return NOT;
        }
        if (slots == 3000) {
            return FULL;
        }
        slots = Math.min(slots + n, 3000);
        return groups().size();
    }

    int merge() {
        if (now.users.isEmpty()) {
            return NOT;
        }
        List<List<Integer>> groups = groups();
        int last = Math.min(slots + 1500, 3000);
        while (groups.size() > 1 && slots < last) {
            groups = groupsAfter(groups, slots);
            slots++;
        }
        return slots;
    }

    int part() {
        int were = slots;
        slots = 0;
        return were;
    }

    int keep(int i) {
        if (out(i, 0, 1)) {
            return UNKNOWN;
        }
        images.put(i, now);
        return now.users.size();
    }

    int goBack(int i) {
        if (out(i, 0, 1)) {
            return UNKNOWN;
        }
        if (!images.containsKey(i)) {
            return NOT;
        }
        past.clear();
        become(images.get(i));
        return now.users.size();
    }
}
