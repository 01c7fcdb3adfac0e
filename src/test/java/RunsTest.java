import java.util.Arrays;
import java.util.Random;

/** Long runs of calls, by fixed seeds, each answer compared with the model's. */
public final class RunsTest {
    private static final int RUNS = 600;
    private static final int CALLS = 512;
    private static final String[] NAMES = {
        "weather", "pass", "board", "knot", "cut", "sharpen", "clearFrom", "coat", "match", "joint",
        "need", "clamps", "glue", "repair", "through", "breaksIn", "month", "ofBoard", "ofPart", "ofJoint",
    };
    // How often each is called, and that when the shop is filled.
    private static final int[] OFTEN = {5, 8, 3, 3, 5, 4, 6, 4, 3, 8, 5, 2, 10, 6, 5, 8, 1, 5, 8, 10};
    private static final int[] AT_FIRST = {3, 0, 8, 4, 14, 4, 3, 1, 1, 12, 4, 1, 2, 0, 1, 1, 0, 1, 1, 1};
    private static final int[] FAR = {
        Integer.MIN_VALUE, Integer.MIN_VALUE + 1, -30000, -31, -2, -1, 0, 1, 2, 12, 20, 25, 30, 31, 32, 40,
        99, 100, 300, 301, 6000, 30000, 30001, 65536, 1 << 30, Integer.MAX_VALUE - 1, Integer.MAX_VALUE,
    };

    private final Random random;
    private final DovetailRow shop = new DovetailRow();
    private final Model model = new Model();
    private final int[] answered = new int[NAMES.length];

    private RunsTest(long seed) {
        random = new Random(seed);
    }

    public static void main(String[] args) {
        int[] answered = new int[NAMES.length];
        for (int run = 0; run < RUNS; run++) {
            RunsTest test = new RunsTest(run);
            test.go(run);
            for (int kind = 0; kind < NAMES.length; kind++) {
                answered[kind] += test.answered[kind];
            }
        }
        // A run that is refused all the time shows little.
        for (int kind = 0; kind < NAMES.length; kind++) {
            Check.due(NAMES[kind] + " answers often enough", answered[kind] > RUNS, true);
        }
        Check.end();
    }

    private void go(int run) {
        int fill = random.nextInt(200);
        for (int i = 0; i < CALLS; i++) {
            int kind = pick(i < fill ? AT_FIRST : OFTEN);
            int[] a = arguments(kind);
            int want = model.call(kind, a.clone());
            String due = said(want);
            String got = Check.outcome(shop, s -> call(s, kind, a));
            answered[kind] += due.startsWith("throws") ? 0 : 1;
            Check.due("run " + run + ", call " + i + ": " + NAMES[kind] + Arrays.toString(a), got, due);
            if (!got.equals(due)) {
                return;
            }
        }
    }

    private static String said(int answer) {
        switch (answer) {
            case Model.NO_SUCH: return "throws java.lang.IndexOutOfBoundsException";
            case Model.RANGE: return "throws java.lang.IllegalArgumentException";
            case Model.STATE: return "throws java.lang.IllegalStateException";
            default: return Integer.toString(answer);
        }
    }

    private static int call(DovetailRow s, int kind, int[] a) {
        switch (kind) {
            case 0: return s.weather(a[0], a[1]);
            case 1: return s.pass(a[0]);
            case 2: return s.board(a[0], a[1], a[2], a[3], a[4], a[5]);
            case 3: return s.knot(a[0], a[1], a[2]);
            case 4: return s.cut(a[0], a[1], a[2], a[3], a[4] != 0);
            case 5: return s.sharpen(a[0]);
            case 6: return s.clearFrom(a[0], a[1]);
            case 7: return s.coat(a[0]);
            case 8: return s.match(a[0], a[1]);
            case 9: return s.joint(a[0], a[1], a[2], a[3], a[4]);
            case 10: return s.need(a[0], a[1]);
            case 11: return s.clamps(a[0]);
            case 12: return s.glue(a[0]);
            case 13: return s.repair(a[0]);
            case 14: return s.through(a[0]);
            case 15: return s.breaksIn(a[0], a[1]);
            case 16: return s.month();
            case 17: return s.ofBoard(a[0], a[1]);
            case 18: return s.ofPart(a[0], a[1]);
            default: return s.ofJoint(a[0], a[1]);
        }
    }

    private int pick(int[] weights) {
        int sum = 0;
        for (int weight : weights) {
            sum += weight;
        }
        int left = random.nextInt(sum);
        for (int kind = 0; kind < weights.length; kind++) {
            left -= weights[kind];
            if (left < 0) {
                return kind;
            }
        }
        return 0;
    }

    /** From least to most, often at the ends. */
    private int in(int least, int most) {
        switch (random.nextInt(12)) {
            case 0: return least;
            case 1: return most;
            default: return most <= least ? least : least + random.nextInt(most - least + 1);
        }
    }

    private int number(int count) {
        return in(0, Math.max(0, count - 1));
    }

    private int[] arguments(int kind) {
        int[] a = wellMade(kind);
        if (a.length > 0 && random.nextInt(12) == 0) {
            int i = random.nextInt(a.length);
            a[i] = random.nextBoolean() ? FAR[random.nextInt(FAR.length)] : a[i] + random.nextInt(5) - 2;
        }
        return a;
    }

    private int[] wellMade(int kind) {
        int boards = model.boards.length;
        int parts = model.parts.length;
        int joints = model.joints.length;
        switch (kind) {
            case 0: return new int[] {in(0, 11), in(40, 300)};
            case 1: return new int[] {random.nextInt(4) == 0 ? in(1, 24) : in(1, 3)};
            case 2: return newBoard();
            case 3: return newKnot(number(boards));
            case 4: return newPart(number(boards));
            case 5: return new int[] {in(0, 1)};
            case 6: return new int[] {number(boards), random.nextBoolean() ? in(10, 800) : in(10, 30000)};
            case 7: return new int[] {number(parts)};
            case 8: return new int[] {number(parts), number(parts)};
            case 9: return newJoint(number(parts), number(parts));
            case 10: return new int[] {number(joints), number(joints / 2)};
            case 11: return new int[] {in(1, 99)};
            case 12: return new int[] {someJoints(joints)};
            case 13: return new int[] {number(joints)};
            case 14: return new int[] {in(1, 24)};
            case 15: return new int[] {number(joints), in(1, 24)};
            case 16: return new int[0];
            case 17: return new int[] {number(boards), in(0, 2)};
            case 18: return new int[] {number(parts), in(0, 4)};
            default: return new int[] {number(joints), in(0, 4)};
        }
    }

    private int[] newBoard() {
        int flitch = in(0, 9);
        int species = random.nextInt(8) == 0 ? in(0, 3) : flitch % 4;
        return new int[] {species, flitch, random.nextBoolean() ? in(0, 20) : in(3, 8), in(100, 6000),
            random.nextBoolean() ? in(100, 3000) : in(100, 30000), in(40, 300)};
    }

    private int lengthOf(int board) {
        return board < model.boards.length ? model.boards[board][4] : 100;
    }

    private int[] newKnot(int board) {
        int from = in(0, lengthOf(board) - 1);
        return new int[] {board, from, Math.min(lengthOf(board), from + in(1, 200))};
    }

    private int[] newPart(int board) {
        int length = in(10, random.nextInt(4) == 0 ? lengthOf(board) : 600);
        int from = in(0, Math.max(0, lengthOf(board) - length));
        int clear = model.call(6, new int[] {board, length});
        if (clear >= 0 && random.nextInt(3) > 0) {
            from = Math.max(0, clear + (random.nextInt(4) == 0 ? random.nextInt(3) - 1 : 0));
        }
        int widest = Math.max(10, model.call(17, new int[] {board, 1}));
        return new int[] {board, from, length, in(10, widest), random.nextInt(3) == 0 ? 1 : 0};
    }

    private int[] newJoint(int part, int other) {
        int kind = in(0, 2);
        int length = part < model.parts.length ? model.parts[part][2] : 10;
        int width = Math.max(10, model.call(18, new int[] {part, 1}));
        switch (kind) {
            case 0: return new int[] {kind, part, other, in(10, length + 1), 0};
            case 1: return new int[] {kind, part, other, in(10, width + 1), 0};
            default:
                int tongue = random.nextBoolean() ? in(1, 9) : in(1, 200);
                return new int[] {kind, part, other, in(width - 1, width + 2 * tongue + 1), tongue};
        }
    }

    private int someJoints(int joints) {
        int set = 0;
        int many = random.nextInt(6) == 0 ? 12 : 2;
        for (int i = 0; i <= many; i++) {
            set |= 1 << number(joints);
        }
        return set;
    }
}
