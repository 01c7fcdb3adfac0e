/** Promise 19, row by row: ofBoard. */
public final class Edge19OfBoardTest {
    public static void main(String[] args) {
        Sentence.holds("`board`: a board", Edge19OfBoardTest::aBoard);
        Sentence.holds("`what`: 0 how moist it is, 1 how wide it is now, 2 how many knots it has",
                Edge19OfBoardTest::what);
        Sentence.holds("Tells of a board: 0 how moist it is", Edge19OfBoardTest::howMoist);
        Sentence.holds("1 how wide it is now", Edge19OfBoardTest::howWide);
        Sentence.holds("2 how many knots it has", Edge19OfBoardTest::knots);
        Sentence.holds("Throws `IndexOutOfBoundsException` if there is no such board", Edge19OfBoardTest::noBoard);
        Sentence.holds("Throws `IllegalArgumentException` if what is out of its range",
                Edge19OfBoardTest::outOfItsRange);
        Sentence.end();
    }

    private static void aBoard() {
        Edge.range(Check.NO_SUCH, 0, 2, Shops::busy, (s, i) -> s.ofBoard(i, 0));
        Edge.range(Check.NO_SUCH, 0, 19, Shops::full, (s, i) -> s.ofBoard(i, 2));
        int[][] due = {{155, 3964, 0}, {127, 3004, 1}, {112, 2012, 1}};
        for (int board = 0; board < 3; board++) {
            for (int what = 0; what <= 2; what++) {
                int one = board;
                int asked = what;
                Check.answers("what " + what + " of " + board, due[board][what], Shops::busy,
                        s -> s.ofBoard(one, asked));
            }
        }
    }

    private static void what() {
        Edge.range(Check.RANGE, 0, 2, Shops::busy, (s, i) -> s.ofBoard(0, i));
        Edge.range(Check.RANGE, 0, 2, Shops::full, (s, i) -> s.ofBoard(19, i));
    }

    /** Oak of 6000 at this moisture, after so many months in this air. */
    private static DovetailRow oak(int moisture, int air, int months) {
        DovetailRow shop = Shops.in(air);
        shop.board(DovetailRow.OAK, 0, 0, 6000, 1000, moisture);
        return Shops.later(shop, months);
    }

    private static void howMoist() {
        Check.answers("the driest", 40, () -> oak(40, 40, 1), s -> s.ofBoard(0, 0));
        Check.answers("the dampest", 300, () -> oak(300, 300, 1), s -> s.ofBoard(0, 0));
        Check.answers("from the driest, a month", 105, () -> oak(40, 300, 1), s -> s.ofBoard(0, 0));
        Check.answers("from the driest, years", 300, () -> oak(40, 300, 48), s -> s.ofBoard(0, 0));
        Check.answers("from the dampest, a month", 235, () -> oak(300, 40, 1), s -> s.ofBoard(0, 0));
        Check.answers("from the dampest, years", 40, () -> oak(300, 40, 48), s -> s.ofBoard(0, 0));
    }

    // 6000 * 5 * 260 / 10000 = 780
    private static void howWide() {
        Check.answers("as it comes", 6000, () -> oak(100, 300, 0), s -> s.ofBoard(0, 1));
        Check.answers("the widest", 6780, () -> oak(40, 300, 48), s -> s.ofBoard(0, 1));
        Check.answers("the least wide", 5220, () -> oak(300, 40, 48), s -> s.ofBoard(0, 1));
    }

    private static void knots() {
        for (int many = 0; many <= 4; many++) {
            DovetailRow shop = oak(100, 100, 0);
            for (int i = 0; i < many; i++) {
                shop.knot(0, i, i + 1);
            }
            Check.due("knots", shop.ofBoard(0, 2), many);
        }
        DovetailRow refused = Shops.oneBoard();
        Check.refusedNow("a refused one", Check.RANGE, refused, s -> s.knot(0, 5, 5));
        Check.due("does not count", refused.ofBoard(0, 2), 1);
    }

    private static void noBoard() {
        Check.refused("none of none", Check.NO_SUCH, Shops::empty, s -> s.ofBoard(0, 0));
        for (int what = 0; what <= 2; what++) {
            int asked = what;
            Edge.beyond(Check.NO_SUCH, 0, 2, Shops::busy, (s, i) -> s.ofBoard(i, asked));
        }
    }

    private static void outOfItsRange() {
        for (int board = 0; board < 3; board++) {
            int one = board;
            Edge.beyond(Check.RANGE, 0, 2, Shops::busy, (s, i) -> s.ofBoard(one, i));
        }
    }
}
