import java.util.Random;

/** All promises: long runs of calls, wrong ones among them, each held against the plain model. */
public final class ModelTest {
    private static final Due due = new Due("ModelTest");
    private static final int RUNS = 300, CALLS = 512;
    private static final int[] EDGES = {-1, -2, 0, 1, 2, 3, 4, 5, 9, 10, 11, 49, 50, 99, 100, 199, 200, 201, 499, 500, 501,
        999, 1499, 1500, 1501, 2999, 3000, 3001, 999999, 1000000, Integer.MIN_VALUE, Integer.MAX_VALUE};

    private final Random random;
    private final HopMeet program = new HopMeet();
    private final PlainModel model = new PlainModel();
    private final int wrongInHundred;
    private int want;
    private String call;

    private ModelTest(int seed) {
        random = new Random(seed);
        wrongInHundred = seed % 3 == 0 ? 25 : 3;
    }

    public static void main(String[] args) {
        for (int seed = 0; seed < RUNS; seed++) {
            new ModelTest(seed).run(seed);
        }
        due.end();
    }

    private void run(int seed) {
        for (int i = 0; i < CALLS; i++) {
            int got = next(i < 12 ? random.nextInt(4) : random.nextInt(60));
            due.is("run " + seed + ", call " + i + ": " + call, got, want);
        }
        for (int what = 0; what <= 8; what++) {
            due.is("run " + seed + ", told(" + what + ")", program.told(what), model.told(what));
        }
    }

    private int number(int least, int most) {
        if (random.nextInt(100) < wrongInHundred) {
            return EDGES[random.nextInt(EDGES.length)];
        }
        int kind = random.nextInt(12);
        return kind == 0 ? least : kind == 1 ? most : least + random.nextInt(most - least + 1);
    }

    private int someUser() {
        return number(0, Math.max(0, model.told(2) - 1));
    }

    private int next(int kind) {
        if (kind < 18) {
            return nextChange(kind);
        }
        if (kind < 30) {
            return nextWhere(kind - 18);
        }
        return kind < 46 ? nextMeeting(kind - 30) : nextTogether(kind - 46);
    }

    private int nextChange(int kind) {
        int u = someUser();
        switch (kind) {
            case 0: case 1: {
                int row = number(0, 3), start = number(0, 99), step = number(0, 99), wakes = number(0, 200);
                call = "user(" + row + ", " + start + ", " + step + ", " + wakes + ")";
                want = model.user(row, start, step, wakes);
                return program.user(row, start, step, wakes);
            }
            case 2: case 3: case 4: {
                int set = number(0, (1 << model.told(0)) - 1);
                call = "open(" + u + ", " + set + ")";
                want = model.open(u, set);
                return program.open(u, set);
            }
            case 5: case 6: case 7: {
                int what = number(0, 3), v = number(0, new int[] {3, 99, 99, 200}[random.nextInt(4)]);
                call = "set(" + u + ", " + what + ", " + v + ")";
                want = model.set(u, what, v);
                return program.set(u, what, v);
            }
            case 8: case 9: case 10: {
                int who = random.nextInt(3) == 0 ? -1 : u;
                int channel = number(0, model.told(0) - 1), slot = number(0, 1500), many = number(1, 500);
                call = "shut(" + who + ", " + channel + ", " + slot + ", " + many + ")";
                want = model.shut(who, channel, slot, many);
                return program.shut(who, channel, slot, many);
            }
            case 11: {
                int seed = number(1, 999999);
                call = "drift(" + seed + ")";
                want = model.drift(seed);
                return program.drift(seed);
            }
            case 12: case 13: case 14: case 15:
                call = "undo()";
                want = model.undo();
                return program.undo();
            case 16:
                if (random.nextInt(8) == 0) {
                    int n = number(2, 10);
                    call = "channels(" + n + ")";
                    want = model.channels(n);
                    return program.channels(n);
                }
                return nextImage();
            default:
                return nextImage();
        }
    }

    private int nextImage() {
        int i = number(0, 1);
        if (random.nextInt(3) > 0) {
            call = "keep(" + i + ")";
            want = model.keep(i);
            return program.keep(i);
        }
        call = "goBack(" + i + ")";
        want = model.goBack(i);
        return program.goBack(i);
    }

    private int nextWhere(int kind) {
        int u = someUser();
        int t = random.nextBoolean() ? number(0, 3000) : number(0, 300);
        int what = number(0, 8);
        switch (kind / 2) {
            case 0:
                call = "pointsAt(" + u + ", " + t + ")";
                want = model.pointsAt(u, t);
                return program.pointsAt(u, t);
            case 1:
                call = "on(" + u + ", " + t + ")";
                want = model.on(u, t);
                return program.on(u, t);
            case 2:
                call = "why(" + u + ", " + t + ")";
                want = model.why(u, t);
                return program.why(u, t);
            case 3:
                call = "userOf(" + u + ", " + what + ")";
                want = model.userOf(u, what);
                return program.userOf(u, what);
            default:
                call = "told(" + what + ")";
                want = model.told(what);
                return program.told(what);
        }
    }

    private int nextMeeting(int kind) {
        int u = someUser();
        int v = someUser();
        int d = number(0, 200);
        int n = number(0, 1500);
        switch (kind / 3) {
            case 0:
                call = "first(" + u + ", " + v + ")";
                want = model.first(u, v);
                return program.first(u, v);
            case 1:
                call = "worst(" + u + ", " + v + ", " + d + ")";
                want = model.worst(u, v, d);
                return program.worst(u, v, d);
            case 2:
                int b = random.nextBoolean() ? number(0, 30) : n;
                call = "bound(" + u + ", " + v + ", " + d + ", " + b + ")";
                want = model.bound(u, v, d, b);
                return program.bound(u, v, d, b);
            case 3:
                call = "together(" + u + ", " + v + ", " + n + ")";
                want = model.together(u, v, n);
                return program.together(u, v, n);
            default:
                call = "even(" + u + ", " + n + ")";
                want = model.even(u, n);
                return program.even(u, n);
        }
    }

    private int nextTogether(int kind) {
        if (kind < 9) {
            int n = random.nextBoolean() ? number(1, 200) : number(1, 9);
            call = "run(" + n + ")";
            want = model.run(n);
            return program.run(n);
        }
        if (kind < 13) {
            call = "merge()";
            want = model.merge();
            return program.merge();
        }
        call = "part()";
        want = model.part();
        return program.part();
    }
}
