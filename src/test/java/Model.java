import java.util.Arrays;

/**
 * The document once more, written plainly and apart from the class, to compare long runs with.
 * Numbered kinds of calls are in the order of the face. A refusal is told as one of three numbers.
 */
final class Model {
    static final int NO_SUCH = Integer.MIN_VALUE;
    static final int RANGE = Integer.MIN_VALUE + 1;
    static final int STATE = Integer.MIN_VALUE + 2;

    private static final int[] MOVES = {2, 3, 4, 5};
    private static final int[] HARD = {2, 4, 7, 9};

    int[] air = new int[12];
    int[] edges = {100, 100};
    int month = 0;
    int clamps = 6;
    // species, flitch, place, width, length, moisture measured, moisture, knots, then from and to of 4 knots
    int[][] boards = new int[0][];
    // board, from, length, width, moisture measured, moisture, coats
    int[][] parts = new int[0][];
    // kind, part, other, size, tongue, needs, 0 dry 1 glued 3 broken, moisture as glued
    int[][] joints = new int[0][];

    Model() {
        Arrays.fill(air, 100);
    }

    Model copy() {
        Model copy = new Model();
        copy.air = air.clone();
        copy.edges = edges.clone();
        copy.month = month;
        copy.clamps = clamps;
        copy.boards = copyOf(boards);
        copy.parts = copyOf(parts);
        copy.joints = copyOf(joints);
        return copy;
    }

    private static int[][] copyOf(int[][] rows) {
        int[][] copy = new int[rows.length][];
        for (int i = 0; i < rows.length; i++) {
            copy[i] = rows[i].clone();
        }
        return copy;
    }

    private static int[][] and(int[][] rows, int... row) {
        int[][] more = Arrays.copyOf(rows, rows.length + 1);
        more[rows.length] = row;
        return more;
    }

    private static boolean out(int value, int least, int most) {
        return value < least || value > most;
    }

    private static boolean none(int number, int[][] rows) {
        return out(number, 0, rows.length - 1);
    }

    int call(int kind, int[] a) {
        switch (kind) {
            case 0: return weather(a[0], a[1]);
            case 1: return pass(a[0]);
            case 2: return board(a);
            case 3: return knot(a[0], a[1], a[2]);
            case 4: return cut(a[0], a[1], a[2], a[3], a[4] != 0);
            case 5: return sharpen(a[0]);
            case 6: return clearFrom(a[0], a[1]);
            case 7: return coat(a[0]);
            case 8: return match(a[0], a[1]);
            case 9: return joint(a[0], a[1], a[2], a[3], a[4]);
            case 10: return need(a[0], a[1]);
            case 11: return clamps(a[0]);
            case 12: return glue(a[0]);
            case 13: return repair(a[0]);
            case 14: return through(a[0]);
            case 15: return breaksIn(a[0], a[1]);
            case 16: return month;
            case 17: return ofBoard(a[0], a[1]);
            case 18: return ofPart(a[0], a[1]);
            default: return ofJoint(a[0], a[1]);
        }
    }

    private int weather(int inMonth, int moisture) {
        if (out(inMonth, 0, 11)) {
            return NO_SUCH;
        }
        if (out(moisture, 40, 300)) {
            return RANGE;
        }
        int before = air[inMonth];
        air[inMonth] = moisture;
        return before;
    }

    private int pass(int months) {
        if (out(months, 1, 24)) {
            return RANGE;
        }
        return month + months > 1200 ? STATE : go(months);
    }

    private int go(int months) {
        int broken = 0;
        for (int i = 0; i < months; i++) {
            int now = air[month % 12];
            for (int[] b : boards) {
                b[6] = next(b[6], now, 0);
            }
            for (int[] p : parts) {
                p[5] = next(p[5], now, p[6]);
            }
            month++;
            for (int[] j : joints) {
                if (j[6] == 1 && isTorn(j)) {
                    j[6] = 3;
                    broken++;
                }
            }
        }
        return broken;
    }

    private static int next(int moisture, int air, int coats) {
        int apart = Math.abs(air - moisture);
        int step = apart == 0 ? 0 : Math.max(1, apart / (4 + coats));
        return air > moisture ? moisture + step : moisture - step;
    }

    private static int moved(int width, int species, int moister) {
        int moved = width * MOVES[species] * Math.abs(moister) / 10000;
        return moister < 0 ? -moved : moved;
    }

    private int speciesOf(int part) {
        return boards[parts[part][0]][0];
    }

    private int boardWidth(int[] b) {
        return b[3] + moved(b[3], b[0], b[6] - b[5]);
    }

    private int partWidth(int part) {
        int[] p = parts[part];
        return p[3] + moved(p[3], speciesOf(part), p[5] - p[4]);
    }

    private boolean isTorn(int[] j) {
        if (j[0] == 1) {
            return Math.abs(moved(j[3], speciesOf(j[1]), parts[j[1]][5] - j[7])) >= 6;
        }
        return j[0] == 2 && partWidth(j[1]) + 2 * j[4] < j[3];
    }

    private int board(int[] a) {
        if (out(a[0], 0, 3) || out(a[1], 0, 9) || out(a[2], 0, 20) || out(a[3], 100, 6000)
                || out(a[4], 100, 30000) || out(a[5], 40, 300)) {
            return RANGE;
        }
        if (boards.length == 20) {
            return STATE;
        }
        for (int[] b : boards) {
            if (b[1] == a[1] && (b[0] != a[0] || b[2] == a[2])) {
                return STATE;
            }
        }
        boards = and(boards, a[0], a[1], a[2], a[3], a[4], a[5], a[5], 0, 0, 0, 0, 0, 0, 0, 0, 0);
        return boards.length - 1;
    }

    /** Each place along a board: 1 taken up, 2 a knot, 3 both. */
    private byte[] places(int board) {
        byte[] places = new byte[boards[board][4]];
        for (int[] p : parts) {
            for (int i = p[1] - 30; p[0] == board && i < p[1] + p[2] + 30; i++) {
                if (i >= 0 && i < places.length) {
                    places[i] |= 1;
                }
            }
        }
        for (int k = 0; k < boards[board][7]; k++) {
            for (int i = boards[board][8 + 2 * k]; i < boards[board][9 + 2 * k]; i++) {
                places[i] |= 2;
            }
        }
        return places;
    }

    private boolean has(byte[] places, int from, int to, int what) {
        for (int i = from; i < to; i++) {
            if ((places[i] & what) != 0) {
                return true;
            }
        }
        return false;
    }

    private int knot(int board, int from, int to) {
        if (none(board, boards)) {
            return NO_SUCH;
        }
        int[] b = boards[board];
        if (out(from, 0, b[4] - 1) || out(to, from + 1, b[4])) {
            return RANGE;
        }
        if (b[7] == 4 || has(places(board), from, to, 1)) {
            return STATE;
        }
        b[8 + 2 * b[7]] = from;
        b[9 + 2 * b[7]] = to;
        return ++b[7];
    }

    private int cut(int board, int from, int length, int width, boolean isHidden) {
        if (none(board, boards)) {
            return NO_SUCH;
        }
        if (out(from, 0, 30000) || out(length, 10, 30000) || out(width, 10, 6000)) {
            return RANGE;
        }
        int[] b = boards[board];
        if (parts.length == 40 || from + length > b[4] || boardWidth(b) < width || edges[0] < HARD[b[0]]
                || has(places(board), from, from + length, isHidden ? 1 : 3)) {
            return STATE;
        }
        edges[0] -= HARD[b[0]];
        parts = and(parts, board, from, length, width, b[6], b[6], 0);
        return parts.length - 1;
    }

    private int sharpen(int edge) {
        if (out(edge, 0, 1)) {
            return NO_SUCH;
        }
        int before = edges[edge];
        edges[edge] = 100;
        return before;
    }

    private int clearFrom(int board, int length) {
        if (none(board, boards)) {
            return NO_SUCH;
        }
        if (out(length, 10, 30000)) {
            return RANGE;
        }
        byte[] places = places(board);
        int free = 0;
        for (int i = 0; i < places.length; i++) {
            free = places[i] == 0 ? free + 1 : 0;
            if (free == length) {
                return i + 1 - length;
            }
        }
        return -1;
    }

    private int coat(int part) {
        if (none(part, parts)) {
            return NO_SUCH;
        }
        return parts[part][6] == 6 ? STATE : ++parts[part][6];
    }

    private int match(int part, int other) {
        if (none(part, parts) || none(other, parts)) {
            return NO_SUCH;
        }
        if (part == other) {
            return RANGE;
        }
        int[] b = boards[parts[part][0]];
        int[] c = boards[parts[other][0]];
        int apart = Math.abs(b[2] - c[2]);
        return b[1] != c[1] ? 0 : apart == 0 ? 3 : apart == 1 ? 2 : 1;
    }

    private int joint(int kind, int part, int other, int size, int tongue) {
        if (none(part, parts) || none(other, parts)) {
            return NO_SUCH;
        }
        if (out(kind, 0, 2) || out(size, 10, 30000) || part == other
                || (kind == 2 ? out(tongue, 1, 200) : tongue != 0)) {
            return RANGE;
        }
        int most = kind == 0 ? parts[part][2] : kind == 1 ? partWidth(part) : partWidth(part) + 2 * tongue;
        int least = kind == 2 ? partWidth(part) : 10;
        int hard = HARD[speciesOf(part)];
        if (joints.length == 30 || out(size, least, most) || edges[1] < hard) {
            return STATE;
        }
        edges[1] -= hard;
        joints = and(joints, kind, part, other, size, tongue, 0, 0, 0);
        return joints.length - 1;
    }

    private int need(int joint, int needed) {
        if (none(joint, joints) || none(needed, joints)) {
            return NO_SUCH;
        }
        if (needed >= joint) {
            return RANGE;
        }
        if (joints[joint][6] != 0) {
            return STATE;
        }
        joints[joint][5] |= 1 << needed;
        return joints[joint][5];
    }

    private int clamps(int count) {
        if (out(count, 1, 99)) {
            return RANGE;
        }
        int before = clamps;
        clamps = count;
        return before;
    }

    private int glue(int set) {
        if (set <= 0) {
            return RANGE;
        }
        for (int i = joints.length; i < 31; i++) {
            if ((set >> i & 1) != 0) {
                return RANGE;
            }
        }
        Model then = copy();
        int minutes = 0;
        int held = 0;
        for (int i = 0; i < joints.length; i++) {
            int[] j = then.joints[i];
            if ((set >> i & 1) == 0) {
                continue;
            }
            if (j[6] != 0) {
                return STATE;
            }
            for (int n = 0; n < i; n++) {
                if ((j[5] >> n & 1) != 0 && then.joints[n][6] == 0) {
                    return STATE;
                }
            }
            minutes += 3 + j[3] / 1000;
            held += 1 + j[3] / 500;
            j[6] = 1;
            j[7] = parts[j[1]][5];
        }
        if (minutes > 30 || held > clamps) {
            return STATE;
        }
        joints = then.joints;
        return minutes;
    }

    private int repair(int joint) {
        if (none(joint, joints)) {
            return NO_SUCH;
        }
        int[] j = joints[joint];
        if (j[6] != 3) {
            return STATE;
        }
        j[6] = 1;
        j[7] = parts[j[1]][5];
        if (j[0] == 2) {
            j[3] = partWidth(j[1]) + j[4];
        }
        return j[3];
    }

    private int through(int months) {
        if (out(months, 1, 24)) {
            return RANGE;
        }
        Model then = copy();
        then.go(months);
        int set = 0;
        for (int i = 0; i < joints.length; i++) {
            set |= joints[i][6] != then.joints[i][6] ? 1 << i : 0;
        }
        return set;
    }

    private int breaksIn(int joint, int months) {
        if (none(joint, joints)) {
            return NO_SUCH;
        }
        if (out(months, 1, 24)) {
            return RANGE;
        }
        if (joints[joint][6] != 1) {
            return STATE;
        }
        Model then = copy();
        for (int i = 1; i <= months; i++) {
            then.go(1);
            if (then.joints[joint][6] == 3) {
                return i;
            }
        }
        return -1;
    }

    private int ofBoard(int board, int what) {
        if (none(board, boards)) {
            return NO_SUCH;
        }
        int[] b = boards[board];
        return what == 0 ? b[6] : what == 1 ? boardWidth(b) : what == 2 ? b[7] : RANGE;
    }

    private int ofPart(int part, int what) {
        if (none(part, parts)) {
            return NO_SUCH;
        }
        int[] p = parts[part];
        int[] answers = {p[0], partWidth(part), p[5], p[6], p[1]};
        return out(what, 0, 4) ? RANGE : answers[what];
    }

    private int ofJoint(int joint, int what) {
        if (none(joint, joints)) {
            return NO_SUCH;
        }
        int[] j = joints[joint];
        boolean isStuck = j[6] == 1 && j[0] == 2 && partWidth(j[1]) > j[3];
        int[] answers = {isStuck ? 2 : j[6], j[3], j[5], j[1], j[2]};
        return out(what, 0, 4) ? RANGE : answers[what];
    }
}
