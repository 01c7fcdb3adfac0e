/** Promise 6: cut. */
public final class P06CutTest {
    public static void main(String[] args) {
        DovetailRow shop = new DovetailRow();
        shop.board(DovetailRow.PINE, 0, 0, 6000, 30000, 123);
        Check.due("the least", shop.cut(0, 0, 10, 10, false), 0);
        Check.due("at the end", shop.cut(0, 29990, 10, 6000, false), 1);
        Check.due("its board", shop.ofPart(1, 0), 0);
        Check.due("its width", shop.ofPart(1, 1), 6000);
        Check.due("its moisture", shop.ofPart(1, 2), 123);
        Check.due("its coats", shop.ofPart(1, 3), 0);
        Check.due("from where on", shop.ofPart(1, 4), 29990);
        Check.due("the saw", shop.sharpen(0), 96);
        Check.due("the chisel", shop.sharpen(1), 100);
        DovetailRow whole = new DovetailRow();
        whole.board(DovetailRow.PINE, 0, 0, 6000, 30000, 123);
        Check.due("all of a board", whole.cut(0, 0, 30000, 6000, false), 0);
        Check.due("the board is what it was", whole.ofBoard(0, 1), 6000);

        ranges();
        places();
        knots();
        widths();
        saws();
        Check.refused("a 41st", Check.STATE, Shops::full, s -> s.cut(0, 3000, 500, 500, false));
        Check.refused("a 41st, and a range", Check.RANGE, Shops::full, s -> s.cut(0, 3000, 9, 500, false));
        Check.due("there", Shops.full().clearFrom(0, 500), 1530);
        Check.end();
    }

    private static void ranges() {
        Check.refused("board -1", Check.NO_SUCH, Shops::oneBoard, s -> s.cut(-1, 0, 100, 100, false));
        Check.refused("board 1", Check.NO_SUCH, Shops::oneBoard, s -> s.cut(1, 0, 100, 100, false));
        Check.refused("board 1, and a range", Check.NO_SUCH, Shops::oneBoard, s -> s.cut(1, -1, 100, 100, false));
        Check.refused("from -1", Check.RANGE, Shops::oneBoard, s -> s.cut(0, -1, 100, 100, false));
        Check.refused("from 30001", Check.RANGE, Shops::oneBoard, s -> s.cut(0, 30001, 100, 100, false));
        Check.refused("from 30000", Check.STATE, Shops::oneBoard, s -> s.cut(0, 30000, 100, 100, false));
        Check.refused("length 9", Check.RANGE, Shops::oneBoard, s -> s.cut(0, 0, 9, 100, false));
        Check.refused("length 30001", Check.RANGE, Shops::oneBoard, s -> s.cut(0, 0, 30001, 100, false));
        Check.refused("length 30000", Check.STATE, Shops::oneBoard, s -> s.cut(0, 0, 30000, 100, true));
        Check.refused("width 9", Check.RANGE, Shops::oneBoard, s -> s.cut(0, 0, 100, 9, false));
        Check.refused("width 6001", Check.RANGE, Shops::oneBoard, s -> s.cut(0, 0, 100, 6001, false));
        Check.refused("width 6000", Check.STATE, Shops::oneBoard, s -> s.cut(0, 0, 100, 6000, false));
        Check.refused("far", Check.RANGE, Shops::oneBoard,
                s -> s.cut(0, Integer.MAX_VALUE, Integer.MAX_VALUE, Integer.MAX_VALUE, true));
        Check.refused("a range, and too wide", Check.RANGE, Shops::oneBoard, s -> s.cut(0, -1, 100, 2001, false));
    }

    private static DovetailRow onePart() {
        DovetailRow shop = Shops.oneBoard();
        shop.board(DovetailRow.OAK, 3, 6, 2000, 9000, 100);
        shop.cut(0, 2000, 500, 500, false);
        return shop;
    }

    // The part takes up 1970 to 2530; the kerfs of two parts may share the 30 between them.
    private static void places() {
        Check.due("up to the 30 before", onePart().cut(0, 1870, 100, 100, false), 1);
        Check.refused("into the 30 before", Check.STATE, P06CutTest::onePart, s -> s.cut(0, 1871, 100, 100, false));
        Check.refused("within it", Check.STATE, P06CutTest::onePart, s -> s.cut(0, 2100, 100, 100, true));
        Check.refused("all round it", Check.STATE, P06CutTest::onePart, s -> s.cut(0, 1000, 2000, 100, false));
        Check.refused("into the 30 behind", Check.STATE, P06CutTest::onePart, s -> s.cut(0, 2529, 100, 100, false));
        Check.due("behind the 30 behind", onePart().cut(0, 2530, 100, 100, false), 1);
        Check.due("there on another board", onePart().cut(1, 2100, 100, 100, false), 1);
        Check.due("up to the board's end", onePart().cut(0, 8900, 100, 100, false), 1);
        Check.refused("past the board's end", Check.STATE, P06CutTest::onePart, s -> s.cut(0, 8901, 100, 100, false));
    }

    // The knot is from 500 to 700.
    private static void knots() {
        Check.due("up to the knot", Shops.oneBoard().cut(0, 400, 100, 100, false), 0);
        Check.refused("1 of the knot", Check.STATE, Shops::oneBoard, s -> s.cut(0, 401, 100, 100, false));
        Check.refused("the last of the knot", Check.STATE, Shops::oneBoard, s -> s.cut(0, 699, 100, 100, false));
        Check.refused("within the knot", Check.STATE, Shops::oneBoard, s -> s.cut(0, 550, 100, 100, false));
        Check.refused("all round the knot", Check.STATE, Shops::oneBoard, s -> s.cut(0, 0, 9000, 100, false));
        Check.due("behind the knot", Shops.oneBoard().cut(0, 700, 100, 100, false), 0);
        Check.due("a hidden knot", Shops.oneBoard().cut(0, 550, 100, 100, true), 0);
        Check.due("hidden, without one", Shops.oneBoard().cut(0, 1000, 100, 100, true), 0);
    }

    private static DovetailRow damp() {
        DovetailRow shop = Shops.in(180);
        shop.board(DovetailRow.OAK, 0, 0, 2000, 9000, 100);
        shop.pass(1);
        return shop;
    }

    // 120 moist now: 2020 wide
    private static void widths() {
        Check.due("as wide as it is now", damp().cut(0, 0, 100, 2020, false), 0);
        Check.refused("wider", Check.STATE, P06CutTest::damp, s -> s.cut(0, 0, 100, 2021, false));
        DovetailRow shop = damp();
        shop.cut(0, 0, 100, 1000, false);
        Check.due("its width as it is cut", shop.ofPart(0, 1), 1000);
        Check.due("its moisture as it is cut", shop.ofPart(0, 2), 120);
        shop.pass(1);
        // 135 moist then: by 1000 * 5 * 15 / 10000 = 7
        Check.due("its width then", shop.ofPart(0, 1), 1007);
        Check.due("the board's width then", shop.ofBoard(0, 1), 2035);
    }

    private static void saws() {
        int[] wears = {2, 4, 7, 9};
        int[] mostCuts = {40, 25, 14, 11};
        for (int i = 0; i <= 3; i++) {
            int species = i;
            int cuts = mostCuts[i];
            Check.due("what wears it", Shops.sawn(species, 1).sharpen(0), 100 - wears[i]);
            Check.due("the saw then", Shops.sawn(species, cuts).sharpen(0), 100 - cuts * wears[i]);
            if (i > 0) {
                Check.refused("a blunt saw", Check.STATE, () -> Shops.sawn(species, cuts),
                        s -> s.cut(0, 9000, 50, 50, false));
            }
        }
        DovetailRow sharpened = Shops.sawn(3, 11);
        sharpened.sharpen(1);
        Check.due("the other edge sharpened", Check.outcome(sharpened, s -> s.cut(0, 9000, 50, 50, false)),
                "throws java.lang.IllegalStateException");
        sharpened.sharpen(0);
        Check.due("sharpened", sharpened.cut(0, 9000, 50, 50, false), 11);
    }
}
