/** Promise 6, row by row: cut. */
public final class Edge06CutTest {
    private static final int PINE = DovetailRow.PINE;
    private static final int OAK = DovetailRow.OAK;

    public static void main(String[] args) {
        Sentence.holds("Cuts a part.", Edge06CutTest::cuts);
        Sentence.holds("`board`: a board", Edge06CutTest::aBoard);
        Sentence.holds("`from`: 0 to 30000", Edge06CutTest::from);
        Sentence.holds("`length`: 10 to 30000", Edge06CutTest::length);
        Sentence.holds("`width`: 10 to 6000", Edge06CutTest::width);
        Sentence.holds("`isHidden`: whether it may have knots", Edge06CutTest::isHidden);
        Sentence.holds("Returns its number.", Edge06CutTest::number);
        Sentence.holds("Throws `IndexOutOfBoundsException` if there is no such board", Edge06CutTest::noBoard);
        Sentence.holds("Throws `IllegalArgumentException` if from, length or width is out of its range",
                Edge06CutTest::outOfItsRange);
        throwsState();
        Sentence.end();
    }

    private static void throwsState() {
        Sentence.holds("Throws `IllegalStateException` if there are 40", Edge06CutTest::forty);
        Sentence.holds("it does not lie within the board", Edge06CutTest::notWithin);
        Sentence.holds("something of its length is taken up", Edge06CutTest::takenUp);
        Sentence.holds("it is wider than the board is now", Edge06CutTest::wider);
        Sentence.holds("it would have a knot that is not hidden", Edge06CutTest::aKnot);
        Sentence.holds("or the saw is not sharp enough", Edge06CutTest::blunt);
    }

    /** Pine, as large as a board can be. */
    private static DovetailRow largest() {
        DovetailRow shop = new DovetailRow();
        shop.board(PINE, 0, 0, 6000, 30000, 123);
        return shop;
    }

    private static void cuts() {
        DovetailRow shop = largest();
        shop.cut(0, 29990, 10, 10, false);
        int[] due = {0, 10, 123, 0, 29990};
        for (int what = 0; what <= 4; what++) {
            Check.due("what " + what, shop.ofPart(0, what), due[what]);
        }
        Check.due("the saw", shop.sharpen(0), 98);
        Check.due("what is clear", shop.clearFrom(0, 29960), 0);
        Check.due("no more is", shop.clearFrom(0, 29961), DovetailRow.NONE);
    }

    private static void aBoard() {
        Edge.ends(0, 2, Shops::busy, (s, i) -> s.cut(i, i == 0 ? 6000 : 3000, 100, 100, true));
        Edge.beyond(Check.NO_SUCH, 0, 2, Shops::busy, (s, i) -> s.cut(i, 3000, 100, 100, true));
    }

    // No board is long enough for the greatest place, but it is in the range.
    private static void from() {
        Edge.ends(0, 29990, Edge06CutTest::largest, (s, i) -> s.cut(0, i, 10, 10, false));
        Check.refused("30000", Check.STATE, Edge06CutTest::largest, s -> s.cut(0, 30000, 10, 10, false));
        Edge.beyond(Check.RANGE, 0, 30000, Edge06CutTest::largest, (s, i) -> s.cut(0, i, 10, 10, false));
        Edge.beyond(Check.RANGE, 0, 30000, Shops::busy, (s, i) -> s.cut(0, i, 10, 10, false));
    }

    private static void length() {
        Edge.range(Check.RANGE, 10, 30000, Edge06CutTest::largest, (s, i) -> s.cut(0, 0, i, 10, false));
        Check.refused("0", Check.RANGE, Edge06CutTest::largest, s -> s.cut(0, 0, 0, 10, false));
    }

    private static void width() {
        Edge.range(Check.RANGE, 10, 6000, Edge06CutTest::largest, (s, i) -> s.cut(0, 0, 10, i, false));
        Check.refused("0", Check.RANGE, Edge06CutTest::largest, s -> s.cut(0, 0, 10, 0, false));
        // A board may be wider than a part can be.
        DovetailRow damp = largest();
        Shops.setAir(damp, 300);
        damp.pass(24);
        Check.due("the board is wider", damp.ofBoard(0, 1) > 6000, true);
        Check.refusedNow("6001", Check.RANGE, damp, s -> s.cut(0, 0, 10, 6001, false));
        Check.due("6000", damp.cut(0, 0, 10, 6000, false), 0);
    }

    private static void isHidden() {
        Check.answers("no knot, not hidden", 0, Shops::oneBoard, s -> s.cut(0, 0, 500, 10, false));
        Check.answers("no knot, hidden", 0, Shops::oneBoard, s -> s.cut(0, 0, 500, 10, true));
        Check.answers("a knot, hidden", 0, Shops::oneBoard, s -> s.cut(0, 0, 501, 10, true));
        Check.refused("a knot, not hidden", Check.STATE, Shops::oneBoard, s -> s.cut(0, 0, 501, 10, false));
    }

    private static void number() {
        Check.answers("the first", 0, Edge06CutTest::largest, s -> s.cut(0, 0, 10, 10, false));
        Check.answers("the sixth", 5, Shops::busy, s -> s.cut(1, 3000, 10, 10, false));
        DovetailRow shop = Shops.busy();
        Check.refusedNow("a refused one", Check.STATE, shop, s -> s.cut(1, 0, 10, 10, false));
        Check.due("takes no number", shop.cut(1, 3000, 10, 10, false), 5);
        Check.answers("the last", 39, Edge06CutTest::thirtyNine, s -> s.cut(0, 9000, 10, 10, false));
    }

    private static void noBoard() {
        Check.refused("of none", Check.NO_SUCH, Shops::empty, s -> s.cut(0, 0, 10, 10, true));
        Edge.beyond(Check.NO_SUCH, 0, 19, Shops::full, (s, i) -> s.cut(i, 3000, 10, 10, true));
    }

    private static void outOfItsRange() {
        int[] least = {0, 10, 10};
        int[] most = {30000, 30000, 6000};
        for (int i = 0; i < 3; i++) {
            int[] low = least.clone();
            int[] high = most.clone();
            low[i]--;
            high[i]++;
            Check.refused("argument " + i + " below, the others at the least", Check.RANGE, Edge06CutTest::largest,
                    s -> s.cut(0, low[0], low[1], low[2], false));
            Check.refused("argument " + i + " above, the others at the most", Check.RANGE, Edge06CutTest::largest,
                    s -> s.cut(0, high[0], high[1], high[2], true));
        }
        Check.refused("all at the most", Check.STATE, Edge06CutTest::largest,
                s -> s.cut(0, 30000, 30000, 6000, true));
        Check.refused("the greatest ints", Check.RANGE, Edge06CutTest::largest,
                s -> s.cut(0, Integer.MAX_VALUE, Integer.MAX_VALUE, Integer.MAX_VALUE, true));
    }

    private static DovetailRow thirtyNine() {
        return Shops.sawn(PINE, 39);
    }

    private static void forty() {
        Check.answers("the 40th", 39, Edge06CutTest::thirtyNine, s -> s.cut(0, 9000, 50, 50, false));
        Check.refused("the 41st", Check.STATE, () -> Shops.sawn(PINE, 40), s -> s.cut(0, 9000, 50, 50, false));
        Check.refused("the 41st, of any board", Check.STATE, Shops::full, s -> s.cut(19, 3000, 50, 50, true));
    }

    private static void notWithin() {
        Check.answers("up to its end", 0, Shops::oneBoard, s -> s.cut(0, 8900, 100, 10, false));
        Check.refused("1 beyond its end", Check.STATE, Shops::oneBoard, s -> s.cut(0, 8901, 100, 10, false));
        Check.answers("as long as it is", 0, Shops::oneBoard, s -> s.cut(0, 0, 9000, 10, true));
        Check.refused("1 longer", Check.STATE, Shops::oneBoard, s -> s.cut(0, 0, 9001, 10, true));
        Check.refused("as long, from 1 on", Check.STATE, Shops::oneBoard, s -> s.cut(0, 1, 9000, 10, true));
        Check.refused("from its end on", Check.STATE, Shops::oneBoard, s -> s.cut(0, 9000, 10, 10, false));
    }

    /** The part from 2000 up to 2500 of board 0; board 1 is empty. */
    private static DovetailRow cut() {
        DovetailRow shop = Shops.oneBoard();
        shop.board(OAK, 3, 6, 2000, 9000, 100);
        shop.cut(0, 2000, 500, 500, false);
        return shop;
    }

    private static void takenUp() {
        Check.answers("30 before", 1, Edge06CutTest::cut, s -> s.cut(0, 1960, 10, 10, false));
        Check.refused("29 before", Check.STATE, Edge06CutTest::cut, s -> s.cut(0, 1961, 10, 10, false));
        Check.refused("29 before, by its length", Check.STATE, Edge06CutTest::cut, s -> s.cut(0, 1960, 11, 10, false));
        Check.answers("30 behind", 1, Edge06CutTest::cut, s -> s.cut(0, 2530, 10, 10, false));
        Check.refused("29 behind", Check.STATE, Edge06CutTest::cut, s -> s.cut(0, 2529, 10, 10, false));
        Check.refused("in it", Check.STATE, Edge06CutTest::cut, s -> s.cut(0, 2200, 10, 10, false));
        Check.refused("round it", Check.STATE, Edge06CutTest::cut, s -> s.cut(0, 0, 9000, 10, true));
        Check.refused("hidden, in the 30 beside it", Check.STATE, Edge06CutTest::cut,
                s -> s.cut(0, 2510, 10, 10, true));
        Check.answers("there, of the other board", 1, Edge06CutTest::cut, s -> s.cut(1, 2000, 500, 500, false));
        Check.refused("not beside the first, but the second", Check.STATE, Edge06CutTest::beside,
                s -> s.cut(0, 5000, 471, 10, false));
        Check.answers("beside both", 2, Edge06CutTest::beside, s -> s.cut(0, 2530, 2940, 10, false));
    }

    private static DovetailRow beside() {
        DovetailRow shop = cut();
        shop.cut(0, 5500, 500, 500, false);
        return shop;
    }

    /** Oak of 2000 at 100, after a month in this air. */
    private static DovetailRow after(int air) {
        DovetailRow shop = Shops.in(air);
        shop.board(OAK, 0, 0, 2000, 1000, 100);
        shop.pass(1);
        return shop;
    }

    // 120 at 180: 2020 wide; 85 at 40: 1985 wide
    private static void wider() {
        Check.answers("as wide as it came", 0, Shops::oneBoard, s -> s.cut(0, 0, 10, 2000, false));
        Check.refused("1 wider than it came", Check.STATE, Shops::oneBoard, s -> s.cut(0, 0, 10, 2001, false));
        Check.answers("as wide as now, damp", 0, () -> after(180), s -> s.cut(0, 0, 10, 2020, false));
        Check.refused("1 wider, damp", Check.STATE, () -> after(180), s -> s.cut(0, 0, 10, 2021, false));
        Check.answers("as wide as now, dry", 0, () -> after(40), s -> s.cut(0, 0, 10, 1985, false));
        Check.refused("1 wider, dry", Check.STATE, () -> after(40), s -> s.cut(0, 0, 10, 1986, false));
    }

    // The knot is from 500 up to 700.
    private static void aKnot() {
        Check.answers("touching its start", 0, Shops::oneBoard, s -> s.cut(0, 490, 10, 10, false));
        Check.refused("1 of its start", Check.STATE, Shops::oneBoard, s -> s.cut(0, 491, 10, 10, false));
        Check.refused("1 of its start, by its length", Check.STATE, Shops::oneBoard,
                s -> s.cut(0, 490, 11, 10, false));
        Check.answers("touching its end", 0, Shops::oneBoard, s -> s.cut(0, 700, 10, 10, false));
        Check.refused("1 of its end", Check.STATE, Shops::oneBoard, s -> s.cut(0, 699, 10, 10, false));
        Check.refused("in it", Check.STATE, Shops::oneBoard, s -> s.cut(0, 600, 10, 10, false));
        Check.refused("just it", Check.STATE, Shops::oneBoard, s -> s.cut(0, 500, 200, 10, false));
        Check.refused("round it", Check.STATE, Shops::oneBoard, s -> s.cut(0, 0, 9000, 10, false));
    }

    private static void blunt() {
        int[] cuts = {0, 25, 14, 11};
        for (int species = 1; species <= 3; species++) {
            int told = species;
            int many = cuts[species];
            Check.answers("the last", many - 1, () -> Shops.sawn(told, many - 1),
                    s -> s.cut(0, 9000, 50, 50, false));
            Check.refused("one more", Check.STATE, () -> Shops.sawn(told, many),
                    s -> s.cut(0, 9000, 50, 50, false));
        }
        // 40 of pine leave 20, so it takes a harder one to be blunt for pine.
        DovetailRow shop = Shops.sawn(OAK, 11);
        shop.board(PINE, 1, 0, 100, 100, 100);
        Check.refusedNow("1 is not enough for pine", Check.STATE, shop, s -> s.cut(1, 0, 50, 50, false));
        Check.due("how sharp it is", shop.sharpen(0), 1);
        Check.due("sharpened", shop.cut(1, 0, 50, 50, false), 11);
    }
}
