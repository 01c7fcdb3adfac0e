/** Promise 5: knot. */
public final class P05KnotTest {
    public static void main(String[] args) {
        DovetailRow shop = new DovetailRow();
        shop.board(DovetailRow.OAK, 0, 0, 500, 1000, 100);
        shop.board(DovetailRow.OAK, 0, 1, 500, 1000, 100);
        Check.due("the shortest at the start", shop.knot(0, 0, 1), 1);
        Check.due("the shortest at the end", shop.knot(0, 999, 1000), 2);
        Check.due("all along", shop.knot(0, 0, 1000), 3);
        Check.due("the same again", shop.knot(0, 0, 1), 4);
        Check.due("of another board", shop.knot(1, 5, 6), 1);
        Check.due("how many", shop.ofBoard(0, 2), 4);
        Check.due("how many of the other", shop.ofBoard(1, 2), 1);

        refusals();
        beside();
        Check.end();
    }

    private static DovetailRow fourKnots() {
        DovetailRow shop = Shops.oneBoard();
        shop.knot(0, 0, 10);
        shop.knot(0, 20, 30);
        shop.knot(0, 40, 50);
        return shop;
    }

    private static void refusals() {
        Check.refused("board -1", Check.NO_SUCH, Shops::oneBoard, s -> s.knot(-1, 0, 1));
        Check.refused("board 1", Check.NO_SUCH, Shops::oneBoard, s -> s.knot(1, 0, 1));
        Check.refused("board 1, and a range", Check.NO_SUCH, Shops::oneBoard, s -> s.knot(1, -1, 1));
        Check.refused("from -1", Check.RANGE, Shops::oneBoard, s -> s.knot(0, -1, 1));
        Check.refused("from its length", Check.RANGE, Shops::oneBoard, s -> s.knot(0, 9000, 9001));
        Check.refused("to from", Check.RANGE, Shops::oneBoard, s -> s.knot(0, 5, 5));
        Check.refused("to before from", Check.RANGE, Shops::oneBoard, s -> s.knot(0, 5, 4));
        Check.refused("to behind its length", Check.RANGE, Shops::oneBoard, s -> s.knot(0, 8999, 9001));
        Check.refused("far from", Check.RANGE, Shops::oneBoard, s -> s.knot(0, Integer.MAX_VALUE, Integer.MIN_VALUE));
        Check.refused("a fifth", Check.STATE, P05KnotTest::fourKnots, s -> s.knot(0, 800, 900));
        Check.refused("a fifth, and a range", Check.RANGE, P05KnotTest::fourKnots, s -> s.knot(0, 800, 800));
        Check.refused("a fifth of board 1", Check.NO_SUCH, P05KnotTest::fourKnots, s -> s.knot(1, 800, 900));
    }

    private static DovetailRow onePart() {
        DovetailRow shop = Shops.oneBoard();
        shop.board(DovetailRow.OAK, 3, 6, 2000, 9000, 100);
        shop.cut(0, 1000, 500, 500, false);
        return shop;
    }

    // The part takes up 970 to 1530.
    private static void beside() {
        Check.due("up to the 30 before", onePart().knot(0, 960, 970), 2);
        Check.refused("into the 30 before", Check.STATE, P05KnotTest::onePart, s -> s.knot(0, 960, 971));
        Check.refused("within the length", Check.STATE, P05KnotTest::onePart, s -> s.knot(0, 1200, 1201));
        Check.refused("all round it", Check.STATE, P05KnotTest::onePart, s -> s.knot(0, 0, 9000));
        Check.refused("at the end of the 30 behind", Check.STATE, P05KnotTest::onePart, s -> s.knot(0, 1529, 1540));
        Check.due("behind the 30 behind", onePart().knot(0, 1530, 1540), 2);
        Check.due("there on another board", onePart().knot(1, 1200, 1201), 1);
    }
}
