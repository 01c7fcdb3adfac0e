import java.util.ArrayList;
import java.util.Arrays;

/** A cabinetmaker's shop of solid wood. The numbered promises of ../shared/DOC.md say what each call does. */
public final class DovetailRow {
    public static final int NONE = -1;
    public static final int PINE = 0, CHERRY = 1, MAPLE = 2, OAK = 3;
    public static final int LONG = 0, CROSS = 1, FLOAT = 2;
    public static final int DRY = 0, WHOLE = 1, STUCK = 2, BROKEN = 3;
    public static final int STRANGE = 0, FLITCH = 1, BOOK = 2, BOARD = 3;

    private static final int MONTHS_OF_YEAR = 12, LAST_MONTH = 1200, MOST_MONTHS = 24;
    private static final int DRIEST = 40, MOISTEST = 300, MOISTURE_AT_FIRST = 100;
    private static final int MOST_BOARDS = 20, MOST_PARTS = 40, MOST_JOINTS = 30;
    private static final int LAST_FLITCH = 9, LAST_PLACE = 20, MOST_KNOTS = 4, MOST_COATS = 6;
    private static final int NARROWEST_BOARD = 100, SHORTEST_BOARD = 100, SHORTEST = 10;
    private static final int WIDEST = 6000, LONGEST = 30000, THICKEST_TONGUE = 200;
    private static final int KERF = 30, SHARP = 100, SAW = 0, CHISEL = 1;
    private static final int SLOWNESS = 4, MOST_MOVEMENT = 5, MOST_MINUTES = 30;
    private static final int CLAMPS_AT_FIRST = 6, MOST_CLAMPS = 99;

    private final ArrayList<Board> boards = new ArrayList<>();
    private final ArrayList<Part> parts = new ArrayList<>();
    private final ArrayList<Joint> joints = new ArrayList<>();
    private final int[] air = new int[MONTHS_OF_YEAR];
    private int nextMonth = 0;
    private int saw = SHARP;
    private int chisel = SHARP;
    private int clampCount = CLAMPS_AT_FIRST;

    public DovetailRow() {
        Arrays.fill(air, MOISTURE_AT_FIRST);
    }

    // ---- the weather

    public int weather(int inMonth, int moisture) throws IndexOutOfBoundsException, IllegalArgumentException {
        if (inMonth < 0 || inMonth >= MONTHS_OF_YEAR) {
            throw new IndexOutOfBoundsException("there is no such month");
        }
        if (!isWithin(moisture, DRIEST, MOISTEST)) {
            throw new IllegalArgumentException("moisture is out of its range");
        }
        int before = air[inMonth];
        air[inMonth] = moisture;
        return before;
    }

    public int pass(int months) throws IllegalArgumentException, IllegalStateException {
        if (!isWithin(months, 1, MOST_MONTHS)) {
            throw new IllegalArgumentException("months is out of its range");
        }
        if (nextMonth + months > LAST_MONTH) {
            throw new IllegalStateException("the month would be above 1200");
        }
        int broken = 0;
        for (int i = 0; i < months; i++) {
            moistenAll(airIn(nextMonth));
            nextMonth++;
            broken += breakJoints();
        }
        return broken;
    }

    // ---- boards, parts

    public int board(int species, int flitch, int place, int width, int length, int moisture)
            throws IllegalArgumentException, IllegalStateException {
        if (!isWithin(species, PINE, OAK) || !isWithin(flitch, 0, LAST_FLITCH) || !isWithin(place, 0, LAST_PLACE)) {
            throw new IllegalArgumentException("species, flitch or place is out of its range");
        }
        if (!isWithin(width, NARROWEST_BOARD, WIDEST) || !isWithin(length, SHORTEST_BOARD, LONGEST)
                || !isWithin(moisture, DRIEST, MOISTEST)) {
            throw new IllegalArgumentException("width, length or moisture is out of its range");
        }
        if (boards.size() >= MOST_BOARDS) {
            throw new IllegalStateException("there are 20 boards");
        }
        if (!suitsFlitch(species, flitch, place)) {
            throw new IllegalStateException("the flitch has that place, or is of another species");
        }
        int number = boards.size();
        boards.add(new Board(number, species, flitch, place, width, length, moisture));
        return number;
    }

    public int knot(int board, int from, int to)
            throws IndexOutOfBoundsException, IllegalArgumentException, IllegalStateException {
        Board found = findBoard(board);
        if (found == null) {
            throw new IndexOutOfBoundsException("there is no such board");
        }
        if (from < 0 || to <= from || to > found.length) {
            throw new IllegalArgumentException("from or to is out of its range");
        }
        if (found.knots.size() >= MOST_KNOTS) {
            throw new IllegalStateException("the board has 4 knots");
        }
        if (touchesAny(found.taken, from, to)) {
            throw new IllegalStateException("something of the knot is taken up");
        }
        found.knots.add(new Span(from, to));
        return found.knots.size();
    }

    public int cut(int board, int from, int length, int width, boolean isHidden)
            throws IndexOutOfBoundsException, IllegalArgumentException, IllegalStateException {
        Board found = findBoard(board);
        if (found == null) {
            throw new IndexOutOfBoundsException("there is no such board");
        }
        if (!isWithin(from, 0, LONGEST) || !isWithin(length, SHORTEST, LONGEST) || !isWithin(width, SHORTEST, WIDEST)) {
            throw new IllegalArgumentException("from, length or width is out of its range");
        }
        if (parts.size() >= MOST_PARTS) {
            throw new IllegalStateException("there are 40 parts");
        }
        if (!found.hasRoom(from, length) || width > found.widthNow()) {
            throw new IllegalStateException("the board has no room for it");
        }
        if (!isHidden && touchesAny(found.knots, from, from + length)) {
            throw new IllegalStateException("the part would have a knot that is not hidden");
        }
        int wear = hardnessOf(found.species);
        if (saw < wear) {
            throw new IllegalStateException("the saw is not sharp enough");
        }
        saw -= wear;
        int number = parts.size();
        parts.add(new Part(number, found, from, length, width));
        found.taken.add(new Span(from - KERF, from + length + KERF));
        return number;
    }

    public int sharpen(int edge) throws IndexOutOfBoundsException {
        if (!isWithin(edge, SAW, CHISEL)) {
            throw new IndexOutOfBoundsException("there is no such edge");
        }
        int before = edge == SAW ? saw : chisel;
        if (edge == SAW) {
            saw = SHARP;
        } else {
            chisel = SHARP;
        }
        return before;
    }

    public int clearFrom(int board, int length) throws IndexOutOfBoundsException, IllegalArgumentException {
        Board found = findBoard(board);
        if (found == null) {
            throw new IndexOutOfBoundsException("there is no such board");
        }
        if (!isWithin(length, SHORTEST, LONGEST)) {
            throw new IllegalArgumentException("length is out of its range");
        }
        // The earliest place is the board's start, or lies right behind something that was in the way.
        int best = found.isClear(0, length) ? 0 : NONE;
        best = earlierBehind(found.knots, found, length, best);
        return earlierBehind(found.taken, found, length, best);
    }

    public int coat(int part) throws IndexOutOfBoundsException, IllegalStateException {
        Part found = findPart(part);
        if (found == null) {
            throw new IndexOutOfBoundsException("there is no such part");
        }
        if (found.coats >= MOST_COATS) {
            throw new IllegalStateException("the part has 6 coats");
        }
        found.coats++;
        return found.coats;
    }

    public int match(int part, int other) throws IndexOutOfBoundsException, IllegalArgumentException {
        Part one = findPart(part);
        Part another = findPart(other);
        if (one == null || another == null) {
            throw new IndexOutOfBoundsException("there is no such part");
        }
        if (part == other) {
            throw new IllegalArgumentException("both parts are the same");
        }
        if (one.board == another.board) {
            return BOARD;
        }
        if (one.board.flitch != another.board.flitch) {
            return STRANGE;
        }
        return Math.abs(one.board.place - another.board.place) == 1 ? BOOK : FLITCH;
    }

    // ---- joints

    public int joint(int kind, int part, int other, int size, int tongue)
            throws IndexOutOfBoundsException, IllegalArgumentException, IllegalStateException {
        Part one = findPart(part);
        Part another = findPart(other);
        if (one == null || another == null) {
            throw new IndexOutOfBoundsException("there is no such part");
        }
        if (!isWithin(kind, LONG, FLOAT) || !isWithin(size, SHORTEST, LONGEST) || !isTongue(kind, tongue)) {
            throw new IllegalArgumentException("kind, size or tongue is out of its range");
        }
        if (part == other) {
            throw new IllegalArgumentException("both parts are the same");
        }
        if (joints.size() >= MOST_JOINTS) {
            throw new IllegalStateException("there are 30 joints");
        }
        if (!fits(kind, one, size, tongue)) {
            throw new IllegalStateException("the size does not fit");
        }
        int wear = hardnessOf(one.species);
        if (chisel < wear) {
            throw new IllegalStateException("the chisel is not sharp enough");
        }
        chisel -= wear;
        int number = joints.size();
        joints.add(new Joint(kind, one, another, size, tongue));
        return number;
    }

    public int need(int joint, int needed)
            throws IndexOutOfBoundsException, IllegalArgumentException, IllegalStateException {
        Joint found = findJoint(joint);
        if (found == null || findJoint(needed) == null) {
            throw new IndexOutOfBoundsException("there is no such joint");
        }
        if (needed >= joint) {
            throw new IllegalArgumentException("needed is not lower");
        }
        if (found.isGlued) {
            throw new IllegalStateException("the joint is glued");
        }
        found.needs |= 1 << needed;
        return found.needs;
    }

    public int clamps(int clamps) throws IllegalArgumentException {
        if (!isWithin(clamps, 1, MOST_CLAMPS)) {
            throw new IllegalArgumentException("clamps is out of its range");
        }
        int before = clampCount;
        clampCount = clamps;
        return before;
    }

    public int glue(int set) throws IllegalArgumentException, IllegalStateException {
        // With at most 30 joints, the set of all of them is still a positive int.
        if (set <= 0 || set >= 1 << joints.size()) {
            throw new IllegalArgumentException("the set is empty, or has a joint that there is not");
        }
        if (!canBeGlued(set)) {
            throw new IllegalStateException("one is glued, or one that it needs is not glued by then");
        }
        int minutes = minutesOf(set);
        if (minutes > MOST_MINUTES || clampsOf(set) > clampCount) {
            throw new IllegalStateException("it would take too long, or too many clamps");
        }
        for (int i = 0; i < joints.size(); i++) {
            if (has(set, i)) {
                joints.get(i).hold();
            }
        }
        return minutes;
    }

    public int repair(int joint) throws IndexOutOfBoundsException, IllegalStateException {
        Joint found = findJoint(joint);
        if (found == null) {
            throw new IndexOutOfBoundsException("there is no such joint");
        }
        if (!found.isBroken) {
            throw new IllegalStateException("the joint is not broken");
        }
        if (found.kind == FLOAT) {
            found.size = found.part.widthNow() + found.tongue;
        }
        found.hold();
        return found.size;
    }

    public int through(int months) throws IllegalArgumentException {
        if (!isWithin(months, 1, MOST_MONTHS)) {
            throw new IllegalArgumentException("months is out of its range");
        }
        int set = 0;
        for (int i = 0; i < joints.size(); i++) {
            Joint joint = joints.get(i);
            if (joint.isHeld() && monthOfBreak(joint, months) != NONE) {
                set |= 1 << i;
            }
        }
        return set;
    }

    public int breaksIn(int joint, int months)
            throws IndexOutOfBoundsException, IllegalArgumentException, IllegalStateException {
        Joint found = findJoint(joint);
        if (found == null) {
            throw new IndexOutOfBoundsException("there is no such joint");
        }
        if (!isWithin(months, 1, MOST_MONTHS)) {
            throw new IllegalArgumentException("months is out of its range");
        }
        if (!found.isHeld()) {
            throw new IllegalStateException("the joint is not glued, or is broken");
        }
        return monthOfBreak(found, months);
    }

    // ---- asking

    public int month() {
        return nextMonth;
    }

    public int ofBoard(int board, int what) throws IndexOutOfBoundsException, IllegalArgumentException {
        Board found = findBoard(board);
        if (found == null) {
            throw new IndexOutOfBoundsException("there is no such board");
        }
        switch (what) {
            case 0: return found.moisture;
            case 1: return found.widthNow();
            case 2: return found.knots.size();
            default: throw new IllegalArgumentException("what is out of its range");
        }
    }

    public int ofPart(int part, int what) throws IndexOutOfBoundsException, IllegalArgumentException {
        Part found = findPart(part);
        if (found == null) {
            throw new IndexOutOfBoundsException("there is no such part");
        }
        switch (what) {
            case 0: return found.board.number;
            case 1: return found.widthNow();
            case 2: return found.moisture;
            case 3: return found.coats;
            case 4: return found.from;
            default: throw new IllegalArgumentException("what is out of its range");
        }
    }

    public int ofJoint(int joint, int what) throws IndexOutOfBoundsException, IllegalArgumentException {
        Joint found = findJoint(joint);
        if (found == null) {
            throw new IndexOutOfBoundsException("there is no such joint");
        }
        switch (what) {
            case 0: return found.state();
            case 1: return found.size;
            case 2: return found.needs;
            case 3: return found.part.number;
            case 4: return found.other.number;
            default: throw new IllegalArgumentException("what is out of its range");
        }
    }

    // ---- what the calls share

    private static boolean isWithin(int value, int least, int greatest) {
        return value >= least && value <= greatest;
    }

    private static boolean has(int set, int number) {
        return (set & 1 << number) != 0;
    }

    private Board findBoard(int number) {
        return number >= 0 && number < boards.size() ? boards.get(number) : null;
    }

    private Part findPart(int number) {
        return number >= 0 && number < parts.size() ? parts.get(number) : null;
    }

    private Joint findJoint(int number) {
        return number >= 0 && number < joints.size() ? joints.get(number) : null;
    }

    // ---- the weather, and what it does

    private int airIn(int monthNumber) {
        return air[Math.floorMod(monthNumber, MONTHS_OF_YEAR)];
    }

    private void moistenAll(int airMoisture) {
        for (int i = 0; i < boards.size(); i++) {
            boards.get(i).moisten(airMoisture);
        }
        for (int i = 0; i < parts.size(); i++) {
            parts.get(i).moisten(airMoisture);
        }
    }

    private int breakJoints() {
        int broken = 0;
        for (int i = 0; i < joints.size(); i++) {
            Joint joint = joints.get(i);
            if (joint.isHeld() && joint.breaksAt(joint.part.moisture)) {
                joint.isBroken = true;
                broken++;
            }
        }
        return broken;
    }

    // A part's moisture depends on nothing but its own and the weather, so one joint can be looked at alone.
    private int monthOfBreak(Joint joint, int months) {
        int moisture = joint.part.moisture;
        for (int i = 0; i < months; i++) {
            moisture = joint.part.moistureAfter(moisture, airIn(nextMonth + i));
            if (joint.breaksAt(moisture)) {
                return i + 1;
            }
        }
        return NONE;
    }

    // ---- species

    private static int movingOf(int species) {
        switch (species) {
            case PINE: return 2;
            case CHERRY: return 3;
            case MAPLE: return 4;
            default: return 5;
        }
    }

    private static int hardnessOf(int species) {
        switch (species) {
            case PINE: return 2;
            case CHERRY: return 4;
            case MAPLE: return 7;
            default: return 9;
        }
    }

    private boolean suitsFlitch(int species, int flitch, int place) {
        for (int i = 0; i < boards.size(); i++) {
            Board board = boards.get(i);
            if (board.flitch == flitch && (board.place == place || board.species != species)) {
                return false;
            }
        }
        return true;
    }

    // ---- places along a board

    private static boolean touchesAny(ArrayList<Span> spans, int from, int to) {
        for (int i = 0; i < spans.size(); i++) {
            if (spans.get(i).touches(from, to)) {
                return true;
            }
        }
        return false;
    }

    private static int earlierBehind(ArrayList<Span> spans, Board board, int length, int best) {
        int earliest = best;
        for (int i = 0; i < spans.size(); i++) {
            int place = spans.get(i).to;
            if ((earliest == NONE || place < earliest) && board.isClear(place, length)) {
                earliest = place;
            }
        }
        return earliest;
    }

    // ---- how joints fit, and are glued

    private static boolean isTongue(int kind, int tongue) {
        return kind == FLOAT ? isWithin(tongue, 1, THICKEST_TONGUE) : tongue == 0;
    }

    private static boolean fits(int kind, Part part, int size, int tongue) {
        switch (kind) {
            case LONG: return size <= part.length;
            case CROSS: return size <= part.widthNow();
            default: return isWithin(part.widthNow(), size - 2 * tongue, size);
        }
    }

    // What a joint needs has a lower number, so that it comes before it if it is in the set too.
    private boolean canBeGlued(int set) {
        int glued = set;
        for (int i = 0; i < joints.size(); i++) {
            if (joints.get(i).isGlued) {
                glued |= 1 << i;
            }
        }
        for (int i = 0; i < joints.size(); i++) {
            Joint joint = joints.get(i);
            if (has(set, i) && (joint.isGlued || (joint.needs & ~glued) != 0)) {
                return false;
            }
        }
        return true;
    }

    private int minutesOf(int set) {
        int minutes = 0;
        for (int i = 0; i < joints.size(); i++) {
            if (has(set, i)) {
                minutes += 3 + joints.get(i).size / 1000;
            }
        }
        return minutes;
    }

    private int clampsOf(int set) {
        int needed = 0;
        for (int i = 0; i < joints.size(); i++) {
            if (has(set, i)) {
                needed += 1 + joints.get(i).size / 500;
            }
        }
        return needed;
    }

    /** Places along a board, from one on, up to another one that is not of it. */
    private static final class Span {
        final int from;
        final int to;

        Span(int from, int to) {
            this.from = from;
            this.to = to;
        }

        boolean touches(int otherFrom, int otherTo) {
            return from < otherTo && otherFrom < to;
        }
    }

    /** What moves with the weather: a board or a part. */
    private abstract static class Wood {
        final int species;
        final int measuredWidth;
        final int measuredMoisture;
        int moisture;
        int coats = 0;

        Wood(int species, int width, int moisture) {
            this.species = species;
            this.measuredWidth = width;
            this.measuredMoisture = moisture;
            this.moisture = moisture;
        }

        int movementOf(int width, int moister) {
            return width * movingOf(species) * moister / 10000;
        }

        int widthAt(int someMoisture) {
            return measuredWidth + movementOf(measuredWidth, someMoisture - measuredMoisture);
        }

        int widthNow() {
            return widthAt(moisture);
        }

        int moistureAfter(int before, int airMoisture) {
            int difference = airMoisture - before;
            int slowness = SLOWNESS + coats;
            // Coats are never below 0, but a divisor is looked at all the same.
            int change = slowness > 0 ? difference / slowness : 0;
            return before + (change != 0 ? change : Integer.signum(difference));
        }

        void moisten(int airMoisture) {
            moisture = moistureAfter(moisture, airMoisture);
        }
    }

    /** A board, with its knots and with what its parts take up, kerfs and all. */
    private static final class Board extends Wood {
        final int number;
        final int flitch;
        final int place;
        final int length;
        final ArrayList<Span> knots = new ArrayList<>();
        final ArrayList<Span> taken = new ArrayList<>();

        Board(int number, int species, int flitch, int place, int width, int length, int moisture) {
            super(species, width, moisture);
            this.number = number;
            this.flitch = flitch;
            this.place = place;
            this.length = length;
        }

        boolean hasRoom(int from, int partLength) {
            return from + partLength <= length && !touchesAny(taken, from, from + partLength);
        }

        boolean isClear(int from, int partLength) {
            return hasRoom(from, partLength) && !touchesAny(knots, from, from + partLength);
        }
    }

    /** A part, which is measured as it is cut. */
    private static final class Part extends Wood {
        final int number;
        final Board board;
        final int from;
        final int length;

        Part(int number, Board board, int from, int length, int width) {
            super(board.species, width, board.moisture);
            this.number = number;
            this.board = board;
            this.from = from;
            this.length = length;
        }
    }

    /** A joint of a part with another one; only the first one moves it. */
    private static final class Joint {
        final int kind;
        final Part part;
        final Part other;
        final int tongue;
        int size;
        int needs = 0;
        boolean isGlued = false;
        boolean isBroken = false;
        int gluedMoisture = 0;

        Joint(int kind, Part part, Part other, int size, int tongue) {
            this.kind = kind;
            this.part = part;
            this.other = other;
            this.size = size;
            this.tongue = tongue;
        }

        void hold() {
            isGlued = true;
            isBroken = false;
            gluedMoisture = part.moisture;
        }

        // A broken joint still counts as glued for what needs it, so the two are told apart here.
        boolean isHeld() {
            return isGlued && !isBroken;
        }

        boolean breaksAt(int moisture) {
            switch (kind) {
                case CROSS: return Math.abs(part.movementOf(size, moisture - gluedMoisture)) > MOST_MOVEMENT;
                case FLOAT: return part.widthAt(moisture) < size - 2 * tongue;
                default: return false;
            }
        }

        int state() {
            if (!isGlued) {
                return DRY;
            }
            if (isBroken) {
                return BROKEN;
            }
            return kind == FLOAT && part.widthNow() > size ? STUCK : WHOLE;
        }
    }
}
