/** Promise 5, row by row: knot. */
public final class Edge05KnotTest {
    public static void main(String[] args) {
        Sentence.holds("Finds a knot in a board.", Edge05KnotTest::finds);
        Sentence.holds("`board`: a board", Edge05KnotTest::aBoard);
        Sentence.holds("`from`: 0 to its length less 1", Edge05KnotTest::from);
        Sentence.holds("`to`: from and 1 more, to its length: the place behind it", Edge05KnotTest::to);
        Sentence.holds("Returns how many knots it has then.", Edge05KnotTest::howMany);
        Sentence.holds("Throws `IndexOutOfBoundsException` if there is no such board", Edge05KnotTest::noBoard);
        Sentence.holds("Throws `IllegalArgumentException` if from or to is out of its range",
                Edge05KnotTest::outOfItsRange);
        Sentence.holds("Throws `IllegalStateException` if it has 4", Edge05KnotTest::hasFour);
        Sentence.holds("or something of it is taken up (by a length, or the 30 beside it)", Edge05KnotTest::takenUp);
        Sentence.end();
    }

    /** Board 0 of 9000, with a knot from 500 to 700, and board 1 of 100. */
    private static DovetailRow two() {
        DovetailRow shop = Shops.oneBoard();
        shop.board(DovetailRow.PINE, 0, 0, 100, 100, 100);
        return shop;
    }

    private static void finds() {
        DovetailRow shop = two();
        shop.knot(1, 10, 90);
        Check.due("10 before it", shop.clearFrom(1, 10), 0);
        Check.due("no 11 beside it", shop.clearFrom(1, 11), DovetailRow.NONE);
        Check.due("the other board's", shop.clearFrom(0, 500), 0);
        Check.due("how many of the other", shop.ofBoard(0, 2), 1);
    }

    private static void aBoard() {
        Edge.ends(0, 1, Edge05KnotTest::two, (s, i) -> s.knot(i, 0, 1));
        Edge.beyond(Check.NO_SUCH, 0, 1, Edge05KnotTest::two, (s, i) -> s.knot(i, 0, 1));
    }

    private static void from() {
        Edge.range(Check.RANGE, 0, 8999, Edge05KnotTest::two, (s, i) -> s.knot(0, i, 9000));
        Edge.range(Check.RANGE, 0, 99, Edge05KnotTest::two, (s, i) -> s.knot(1, i, 100));
    }

    private static void to() {
        Edge.range(Check.RANGE, 1, 9000, Edge05KnotTest::two, (s, i) -> s.knot(0, 0, i));
        Edge.range(Check.RANGE, 9000, 9000, Edge05KnotTest::two, (s, i) -> s.knot(0, 8999, i));
        Edge.range(Check.RANGE, 51, 100, Edge05KnotTest::two, (s, i) -> s.knot(1, 50, i));
        // The place behind it is none of the knot's.
        DovetailRow shop = two();
        shop.knot(1, 0, 90);
        Check.due("behind it", shop.clearFrom(1, 10), 90);
    }

    // Knots may touch, overlap, and be the same.
    private static void howMany() {
        DovetailRow shop = two();
        Check.due("the first of board 1", shop.knot(1, 0, 10), 1);
        Check.due("one that touches it", shop.knot(1, 10, 20), 2);
        Check.due("one over both", shop.knot(1, 5, 15), 3);
        Check.due("the same again", shop.knot(1, 5, 15), 4);
        Check.due("the second of board 0", shop.knot(0, 0, 1), 2);
        Check.due("how many it has", shop.ofBoard(1, 2), 4);
    }

    private static void noBoard() {
        Check.refused("of none", Check.NO_SUCH, Shops::empty, s -> s.knot(0, 0, 1));
        Edge.beyond(Check.NO_SUCH, 0, 19, Shops::full, (s, i) -> s.knot(i, 4000, 4001));
    }

    private static void outOfItsRange() {
        Check.refused("to as from", Check.RANGE, Edge05KnotTest::two, s -> s.knot(0, 0, 0));
        Check.refused("to below from", Check.RANGE, Edge05KnotTest::two, s -> s.knot(0, 100, 99));
        Check.refused("from the length", Check.RANGE, Edge05KnotTest::two, s -> s.knot(1, 100, 101));
        Check.refused("from the length, to it", Check.RANGE, Edge05KnotTest::two, s -> s.knot(1, 100, 100));
        Check.refused("to 1 behind the length", Check.RANGE, Edge05KnotTest::two, s -> s.knot(1, 99, 101));
        Check.refused("from the greatest int to the least", Check.RANGE, Edge05KnotTest::two,
                s -> s.knot(0, Integer.MAX_VALUE, Integer.MIN_VALUE));
        Check.refused("from the least int to the greatest", Check.RANGE, Edge05KnotTest::two,
                s -> s.knot(0, Integer.MIN_VALUE, Integer.MAX_VALUE));
        Check.refused("within the other's length", Check.RANGE, Edge05KnotTest::two, s -> s.knot(1, 100, 200));
    }

    private static DovetailRow knots(int many) {
        DovetailRow shop = two();
        for (int i = 0; i < many; i++) {
            shop.knot(1, 10 * i, 10 * i + 5);
        }
        return shop;
    }

    private static void hasFour() {
        Check.answers("a fourth", 4, () -> knots(3), s -> s.knot(1, 99, 100));
        Check.refused("a fifth", Check.STATE, () -> knots(4), s -> s.knot(1, 99, 100));
        Check.refused("a fifth, as one that is there", Check.STATE, () -> knots(4), s -> s.knot(1, 0, 5));
        Check.answers("of the other board", 2, () -> knots(4), s -> s.knot(0, 0, 1));
    }

    /** The part takes up 1970 to 2530 of board 0; another one, at the end of board 1, 60 to 100. */
    private static DovetailRow cut() {
        DovetailRow shop = two();
        shop.cut(0, 2000, 500, 500, false);
        shop.cut(1, 90, 10, 10, false);
        return shop;
    }

    private static void takenUp() {
        Check.answers("up to the 30", 2, Edge05KnotTest::cut, s -> s.knot(0, 1900, 1970));
        Check.refused("1 of the 30 before", Check.STATE, Edge05KnotTest::cut, s -> s.knot(0, 1900, 1971));
        Check.refused("the 30 before", Check.STATE, Edge05KnotTest::cut, s -> s.knot(0, 1970, 2000));
        Check.refused("1 of the length", Check.STATE, Edge05KnotTest::cut, s -> s.knot(0, 2000, 2001));
        Check.refused("the length", Check.STATE, Edge05KnotTest::cut, s -> s.knot(0, 2000, 2500));
        Check.refused("all", Check.STATE, Edge05KnotTest::cut, s -> s.knot(0, 0, 9000));
        Check.refused("1 of the 30 behind", Check.STATE, Edge05KnotTest::cut, s -> s.knot(0, 2529, 2600));
        Check.answers("from the 30 on", 2, Edge05KnotTest::cut, s -> s.knot(0, 2530, 2600));
        Check.answers("before a part at the end", 1, Edge05KnotTest::cut, s -> s.knot(1, 59, 60));
        Check.refused("beside a part at the end", Check.STATE, Edge05KnotTest::cut, s -> s.knot(1, 60, 61));
        Check.refused("in a part at the end", Check.STATE, Edge05KnotTest::cut, s -> s.knot(1, 99, 100));
    }
}
