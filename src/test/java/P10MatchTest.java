/** Promise 10: match. */
public final class P10MatchTest {
    public static void main(String[] args) {
        DovetailRow shop = parts();
        // parts 0 and 1 of (0, 4); 2 of (0, 5); 3 of (0, 6); 4 of (1, 5); 5 of (0, 2); 6 of (2, 4)
        int[][] due = {
            {-1, 3, 2, 1, 0, 1, 0},
            {3, -1, 2, 1, 0, 1, 0},
            {2, 2, -1, 2, 0, 1, 0},
            {1, 1, 2, -1, 0, 1, 0},
            {0, 0, 0, 0, -1, 0, 0},
            {1, 1, 1, 1, 0, -1, 0},
            {0, 0, 0, 0, 0, 0, -1},
        };
        for (int part = 0; part < 7; part++) {
            for (int other = 0; other < 7; other++) {
                if (part != other) {
                    Check.due("match(" + part + ", " + other + ")", shop.match(part, other), due[part][other]);
                }
            }
        }
        Check.refused("part -1", Check.NO_SUCH, P10MatchTest::parts, s -> s.match(-1, 0));
        Check.refused("part 7", Check.NO_SUCH, P10MatchTest::parts, s -> s.match(7, 0));
        Check.refused("other -1", Check.NO_SUCH, P10MatchTest::parts, s -> s.match(0, -1));
        Check.refused("other 7", Check.NO_SUCH, P10MatchTest::parts, s -> s.match(0, 7));
        Check.refused("the same", Check.RANGE, P10MatchTest::parts, s -> s.match(0, 0));
        Check.refused("the same that there is not", Check.NO_SUCH, P10MatchTest::parts, s -> s.match(7, 7));
        Check.end();
    }

    private static DovetailRow parts() {
        DovetailRow shop = new DovetailRow();
        int[][] boards = {{3, 0, 4}, {3, 0, 5}, {3, 0, 6}, {3, 1, 5}, {3, 0, 2}, {0, 2, 4}};
        for (int[] board : boards) {
            shop.board(board[0], board[1], board[2], 500, 1000, 100);
        }
        shop.cut(0, 0, 100, 100, false);
        shop.cut(0, 200, 100, 100, false);
        for (int board = 1; board < boards.length; board++) {
            shop.cut(board, 0, 100, 100, false);
        }
        return shop;
    }
}
