/** Promise 8, row by row: clearFrom. */
public final class Edge08ClearFromTest {
    private static final int NONE = DovetailRow.NONE;

    public static void main(String[] args) {
        Sentence.holds("Returns from where on, as early as can be, a part of a length [..] could be cut",
                Edge08ClearFromTest::asEarlyAsCanBe);
        Sentence.holds("a part of a length without knots", Edge08ClearFromTest::withoutKnots);
        Sentence.holds("by its length alone.", Edge08ClearFromTest::byItsLengthAlone);
        Sentence.holds("`board`: a board", Edge08ClearFromTest::aBoard);
        Sentence.holds("`length`: 10 to 30000", Edge08ClearFromTest::length);
        Sentence.holds("Returns the place; NONE if there is none.", Edge08ClearFromTest::none);
        Sentence.holds("Throws `IndexOutOfBoundsException` if there is no such board", Edge08ClearFromTest::noBoard);
        Sentence.holds("Throws `IllegalArgumentException` if length is out of its range",
                Edge08ClearFromTest::outOfItsRange);
        Sentence.end();
    }

    private static DovetailRow board(int length) {
        DovetailRow shop = new DovetailRow();
        shop.board(DovetailRow.PINE, 0, 0, 1000, length, 100);
        return shop;
    }

    private static void due(DovetailRow shop, int length, int place) {
        Check.due("clearFrom of " + length, shop.clearFrom(0, length), place);
    }

    // 200 clear, then the part of 270 up to 370, which takes up 240 to 400, then 300 clear, and so on.
    private static DovetailRow gaps() {
        DovetailRow shop = board(2000);
        shop.cut(0, 270, 100, 100, false);
        shop.cut(0, 730, 100, 100, false);
        shop.knot(0, 1260, 1300);
        return shop;
    }

    private static void asEarlyAsCanBe() {
        DovetailRow shop = gaps();
        due(shop, 10, 0);
        due(shop, 240, 0);
        due(shop, 241, 400);
        due(shop, 300, 400);
        due(shop, 301, 860);
        due(shop, 400, 860);
        due(shop, 401, 1300);
        due(shop, 700, 1300);
        due(shop, 701, NONE);
        whatItTellsCanBeCut();
    }

    // From the place on a part can be cut; from 1 before it on, none can, if there is a place.
    private static void whatItTellsCanBeCut() {
        for (int length = 10; length <= 700; length += 30) {
            int asked = length;
            int place = gaps().clearFrom(0, length);
            Check.answers("a cut of " + length, 2, Edge08ClearFromTest::gaps, s -> s.cut(0, place, asked, 10, false));
            if (place > 0) {
                Check.refused("a cut of " + length + " before", Check.STATE, Edge08ClearFromTest::gaps,
                        s -> s.cut(0, place - 1, asked, 10, false));
            }
        }
    }

    private static void withoutKnots() {
        DovetailRow shop = board(1000);
        shop.knot(0, 10, 20);
        due(shop, 10, 0);
        due(shop, 11, 20);
        due(shop, 980, 20);
        due(shop, 981, NONE);
        shop.knot(0, 990, 1000);
        due(shop, 970, 20);
        due(shop, 971, NONE);
        shop.knot(0, 0, 1);
        due(shop, 10, 20);
        // Two knots that only touch leave nothing between them, two that are 10 apart just so much.
        shop.knot(0, 20, 980);
        due(shop, 10, 980);
        due(shop, 11, NONE);
        DovetailRow nothing = board(1000);
        nothing.knot(0, 0, 500);
        nothing.knot(0, 500, 1000);
        due(nothing, 10, NONE);
    }

    private static void byItsLengthAlone() {
        due(Shops.full(), 500, 1530);
        Check.refused("though there are 40 parts", Check.STATE, Shops::full, s -> s.cut(0, 1530, 500, 10, false));
        due(Shops.sawn(DovetailRow.OAK, 11), 500, 1080);
        Check.refused("though the saw is blunt", Check.STATE, () -> Shops.sawn(DovetailRow.OAK, 11),
                s -> s.cut(0, 1080, 500, 10, false));
    }

    private static void aBoard() {
        Edge.range(Check.NO_SUCH, 0, 2, Shops::busy, (s, i) -> s.clearFrom(i, 10));
        Check.answers("of the first", 5030, Shops::busy, s -> s.clearFrom(0, 1000));
        Check.answers("of the last", 2030, Shops::busy, s -> s.clearFrom(2, 1000));
    }

    private static void length() {
        Edge.range(Check.RANGE, 10, 30000, Shops::busy, (s, i) -> s.clearFrom(0, i));
        due(board(30000), 30000, 0);
        due(board(29999), 30000, NONE);
        due(board(100), 10, 0);
    }

    private static void none() {
        due(board(100), 100, 0);
        due(board(100), 101, NONE);
        due(board(100), 30000, NONE);
        DovetailRow shop = board(100);
        shop.cut(0, 0, 100, 10, false);
        due(shop, 10, NONE);
        // A part that ends 40 before the board does leaves 10 of it, one that ends 39 before leaves none.
        DovetailRow forty = board(100);
        forty.cut(0, 0, 60, 10, false);
        due(forty, 10, 90);
        DovetailRow less = board(100);
        less.cut(0, 0, 61, 10, false);
        due(less, 10, NONE);
        DovetailRow before = board(100);
        before.cut(0, 40, 60, 10, false);
        due(before, 10, 0);
        DovetailRow lessBefore = board(100);
        lessBefore.cut(0, 39, 61, 10, false);
        due(lessBefore, 10, NONE);
    }

    private static void noBoard() {
        Check.refused("of none", Check.NO_SUCH, Shops::empty, s -> s.clearFrom(0, 10));
        Edge.beyond(Check.NO_SUCH, 0, 19, Shops::full, (s, i) -> s.clearFrom(i, 10));
    }

    private static void outOfItsRange() {
        Edge.beyond(Check.RANGE, 10, 30000, Shops::busy, (s, i) -> s.clearFrom(2, i));
        Check.refused("0", Check.RANGE, Shops::busy, s -> s.clearFrom(0, 0));
    }
}
