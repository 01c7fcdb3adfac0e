/** "Terms", what is said of all calls: exceptions, roundings, sets. */
public final class EdgeTermsCallsTest {
    private static final int LONG = DovetailRow.LONG;
    private static final int PINE = DovetailRow.PINE;

    public static void main(String[] args) {
        Sentence.holds("A call that throws an exception changes nothing.", EdgeTermsCallsTest::changesNothing);
        Sentence.holds("IndexOutOfBoundsException: there is no such month", EdgeTermsCallsTest::noMonth);
        Sentence.holds("there is no such [..] board", EdgeTermsCallsTest::noBoard);
        Sentence.holds("there is no such [..] part", EdgeTermsCallsTest::noPart);
        Sentence.holds("there is no such [..] edge", EdgeTermsCallsTest::noEdge);
        Sentence.holds("there is no such [..] joint", EdgeTermsCallsTest::noJoint);
        Sentence.holds("IllegalArgumentException: another argument is out of its range.",
                EdgeTermsCallsTest::anotherArgument);
        firsts();
        Sentence.holds("Divisions are rounded towards 0.", EdgeTermsCallsTest::roundings);
        Sentence.holds("Sets are bits, 1 for the number 0.", EdgeTermsCallsTest::sets);
        Sentence.end();
    }

    private static void firsts() {
        Sentence.holds("If several apply, the one that the throws clause names first is thrown: the weather",
                EdgeTermsCallsTest::firstOfWeather);
        Sentence.holds("If several apply, the one that the throws clause names first is thrown: boards, parts",
                EdgeTermsCallsTest::firstOfBoardsParts);
        Sentence.holds("If several apply, the one that the throws clause names first is thrown: joints",
                EdgeTermsCallsTest::firstOfJoints);
        Sentence.holds("If several apply, the one that the throws clause names first is thrown: glue",
                EdgeTermsCallsTest::firstOfGluing);
        Sentence.holds("If several apply, the one that the throws clause names first is thrown: asking",
                EdgeTermsCallsTest::firstOfAsking);
    }

    private static DovetailRow afterAllRefusals() {
        DovetailRow shop = Shops.busy();
        for (Check.Call call : REFUSED) {
            Check.due("refused", Check.outcome(shop, call).startsWith("throws"), true);
        }
        return shop;
    }

    // One for each way in which a busy shop refuses a call, all of them asked of one shop.
    private static void changesNothing() {
        Check.due("what all refusals left", Tale.difference(EdgeTermsCallsTest::afterAllRefusals, Shops::busy), "");
    }

    private static final Check.Call[] REFUSED = {
        s -> s.weather(12, 40), s -> s.weather(0, 301),
        s -> s.pass(0), s -> s.pass(25),
        s -> s.board(4, 1, 1, 500, 500, 100), s -> s.board(PINE, 10, 1, 500, 500, 100),
        s -> s.board(PINE, 1, 21, 500, 500, 100), s -> s.board(PINE, 1, 1, 99, 500, 100),
        s -> s.board(PINE, 1, 1, 500, 99, 100), s -> s.board(PINE, 1, 1, 500, 500, 39),
        s -> s.board(PINE, 2, 0, 500, 500, 100), s -> s.board(DovetailRow.OAK, 2, 3, 500, 500, 100),
        s -> s.knot(3, 0, 1), s -> s.knot(0, -1, 1), s -> s.knot(0, 5, 5), s -> s.knot(0, 0, 1),
        s -> s.cut(3, 0, 100, 100, true), s -> s.cut(1, -1, 100, 100, true), s -> s.cut(1, 3000, 9, 100, true),
        s -> s.cut(1, 3000, 100, 9, true), s -> s.cut(1, 7950, 100, 100, true), s -> s.cut(1, 1029, 100, 100, true),
        s -> s.cut(1, 3000, 100, 6000, true), s -> s.cut(1, 1550, 100, 100, false),
        s -> s.sharpen(2), s -> s.clearFrom(3, 100), s -> s.clearFrom(0, 9), s -> s.coat(5),
        s -> s.match(5, 0), s -> s.match(0, 5), s -> s.match(0, 0),
        s -> s.joint(LONG, 5, 0, 100, 0), s -> s.joint(LONG, 0, 5, 100, 0), s -> s.joint(3, 0, 1, 100, 0),
        s -> s.joint(LONG, 0, 1, 9, 0), s -> s.joint(LONG, 0, 1, 100, 1), s -> s.joint(LONG, 0, 0, 100, 0),
        s -> s.joint(LONG, 0, 1, 1001, 0), s -> s.joint(DovetailRow.CROSS, 0, 1, 1001, 0),
        s -> s.joint(DovetailRow.FLOAT, 0, 1, 900, 1), s -> s.joint(DovetailRow.FLOAT, 0, 1, 1100, 1),
        s -> s.need(7, 0), s -> s.need(6, 7), s -> s.need(6, 6), s -> s.need(4, 0), s -> s.need(0, 0),
        s -> s.clamps(0), s -> s.clamps(100),
        s -> s.glue(0), s -> s.glue(-1), s -> s.glue(128), s -> s.glue(64 + 1), s -> s.glue(64 + 8),
        s -> s.repair(7), s -> s.repair(1), s -> s.repair(3), s -> s.repair(5),
        s -> s.through(0), s -> s.through(25),
        s -> s.breaksIn(7, 1), s -> s.breaksIn(1, 25), s -> s.breaksIn(0, 1), s -> s.breaksIn(5, 1),
        s -> s.ofBoard(3, 0), s -> s.ofBoard(0, 3), s -> s.ofPart(5, 0), s -> s.ofPart(0, 5),
        s -> s.ofJoint(7, 0), s -> s.ofJoint(0, 5),
    };

    /** There are none in an empty shop, so many in a busy one, as many as there may be in a full one. */
    private static void none(int busy, int full, Edge.CallWith call) {
        Check.refused("0 of none", Check.NO_SUCH, Shops::empty, s -> call.on(s, 0));
        Edge.beyond(Check.NO_SUCH, 0, busy - 1, Shops::busy, call);
        Edge.beyond(Check.NO_SUCH, 0, full - 1, Shops::full, call);
    }

    /** The first and the last one are there, in either shop. */
    private static void there(int busy, int full, Edge.CallWith call) {
        Edge.ends(0, busy - 1, Shops::busy, call);
        Edge.ends(0, full - 1, Shops::full, call);
    }

    private static void noMonth() {
        Edge.range(Check.NO_SUCH, 0, 11, Shops::empty, (s, i) -> s.weather(i, 100));
        Edge.range(Check.NO_SUCH, 0, 11, Shops::busy, (s, i) -> s.weather(i, 100));
    }

    private static void noBoard() {
        none(3, 20, (s, i) -> s.knot(i, 0, 1));
        none(3, 20, (s, i) -> s.cut(i, 0, 100, 100, true));
        none(3, 20, (s, i) -> s.clearFrom(i, 100));
        none(3, 20, (s, i) -> s.ofBoard(i, 0));
        there(3, 20, (s, i) -> s.knot(i, s.clearFrom(i, 10), s.clearFrom(i, 10) + 10));
        there(3, 20, (s, i) -> s.clearFrom(i, 100));
        there(3, 20, (s, i) -> s.ofBoard(i, 0));
        Edge.ends(0, 2, Shops::busy, (s, i) -> s.cut(i, s.clearFrom(i, 10), 10, 10, true));
    }

    private static void noPart() {
        none(5, 40, (s, i) -> s.coat(i));
        none(5, 40, (s, i) -> s.match(i, 0));
        none(5, 40, (s, i) -> s.match(0, i));
        none(5, 40, (s, i) -> s.joint(LONG, i, 0, 10, 0));
        none(5, 40, (s, i) -> s.joint(LONG, 0, i, 10, 0));
        none(5, 40, (s, i) -> s.ofPart(i, 0));
        there(5, 40, (s, i) -> s.coat(i));
        there(5, 40, (s, i) -> s.match(i, 1));
        there(5, 40, (s, i) -> s.match(1, i));
        there(5, 40, (s, i) -> s.ofPart(i, 0));
        Edge.ends(0, 4, Shops::busy, (s, i) -> s.joint(LONG, i, i == 0 ? 1 : 0, 10, 0));
        Edge.ends(0, 4, Shops::busy, (s, i) -> s.joint(LONG, i == 0 ? 1 : 0, i, 10, 0));
    }

    private static void noEdge() {
        Edge.range(Check.NO_SUCH, 0, 1, Shops::empty, (s, i) -> s.sharpen(i));
        Edge.range(Check.NO_SUCH, 0, 1, Shops::busy, (s, i) -> s.sharpen(i));
    }

    private static void noJoint() {
        none(7, 30, (s, i) -> s.need(i, 0));
        none(7, 30, (s, i) -> s.need(6, i));
        none(7, 30, (s, i) -> s.repair(i));
        none(7, 30, (s, i) -> s.breaksIn(i, 1));
        none(7, 30, (s, i) -> s.ofJoint(i, 0));
        there(7, 30, (s, i) -> s.ofJoint(i, 0));
    }

    // A month, board, part, edge or joint that there is not is the only thing told by IndexOutOfBoundsException.
    private static void anotherArgument() {
        Check.refused("moisture", Check.RANGE, Shops::busy, s -> s.weather(11, 39));
        Check.refused("species", Check.RANGE, Shops::busy, s -> s.board(-1, 1, 1, 500, 500, 100));
        Check.refused("a place along a board", Check.RANGE, Shops::busy, s -> s.knot(0, -1, 1));
        Check.refused("a kind", Check.RANGE, Shops::busy, s -> s.joint(-1, 0, 1, 100, 0));
        Check.refused("a joint that there is not, in a set", Check.RANGE, Shops::busy, s -> s.glue(1 << 7));
        Check.refused("what", Check.RANGE, Shops::busy, s -> s.ofJoint(0, -1));
    }

    private static void firstOfWeather() {
        Check.refused("no month, moisture", Check.NO_SUCH, Shops::busy, s -> s.weather(-1, 39));
        Check.refused("no month, moisture", Check.NO_SUCH, Shops::busy, s -> s.weather(12, 301));
        Check.refused("months, above 1200", Check.RANGE, () -> Shops.at(1200), s -> s.pass(25));
        Check.refused("months, at 1200", Check.RANGE, () -> Shops.at(1200), s -> s.pass(0));
        Check.refused("months, far above 1200", Check.RANGE, () -> Shops.at(1200), s -> s.pass(Integer.MAX_VALUE));
    }

    private static DovetailRow worn() {
        return Shops.sawn(DovetailRow.OAK, 11);
    }

    private static void firstOfBoardsParts() {
        Check.refused("a range, 20 boards", Check.RANGE, Shops::full, s -> s.board(PINE, 1, 0, 99, 500, 100));
        Check.refused("a range, its place", Check.RANGE, Shops::busy, s -> s.board(PINE, 2, 0, 500, 500, 301));
        Check.refused("a range, its species", Check.RANGE, Shops::busy, s -> s.board(4, 2, 5, 500, 500, 100));
        Check.refused("no board, a range", Check.NO_SUCH, Shops::busy, s -> s.knot(3, 1, 1));
        Check.refused("a range, taken up", Check.RANGE, Shops::busy, s -> s.knot(0, 0, 9001));
        Check.refused("no board, a range of cut", Check.NO_SUCH, Shops::busy, s -> s.cut(3, -1, 9, 9, true));
        Check.refused("no board, 40 parts", Check.NO_SUCH, Shops::full, s -> s.cut(20, 0, 100, 100, true));
        Check.refused("no board, blunt", Check.NO_SUCH, EdgeTermsCallsTest::worn, s -> s.cut(1, 0, 50, 50, true));
        Check.refused("a range, 40 parts", Check.RANGE, Shops::full, s -> s.cut(0, 3000, 100, 6001, true));
        Check.refused("a range, blunt", Check.RANGE, EdgeTermsCallsTest::worn, s -> s.cut(0, 9000, 9, 50, true));
        Check.refused("a range, taken up", Check.RANGE, Shops::busy, s -> s.cut(0, 0, 9, 100, true));
        Check.refused("all", Check.NO_SUCH, Shops::full, s -> s.cut(20, 0, 9, 100, true));
        Check.refused("no board, length", Check.NO_SUCH, Shops::busy, s -> s.clearFrom(-1, 30001));
        Check.refused("no part, twice", Check.NO_SUCH, Shops::busy, s -> s.match(5, 5));
        Check.refused("no part, below 0, twice", Check.NO_SUCH, Shops::busy, s -> s.match(-1, -1));
    }

    private static DovetailRow blunt() {
        DovetailRow shop = Shops.oneJoint(DovetailRow.OAK, 1000, LONG, 100, 0, 100);
        for (int i = 1; i < 11; i++) {
            shop.joint(LONG, 0, 1, 100, 0);
        }
        return shop;
    }

    private static void firstOfJoints() {
        Check.refused("no part, a range", Check.NO_SUCH, Shops::busy, s -> s.joint(3, 5, 0, 9, 201));
        Check.refused("no other, a range", Check.NO_SUCH, Shops::busy, s -> s.joint(-1, 0, 5, 30001, -1));
        Check.refused("no part, twice", Check.NO_SUCH, Shops::busy, s -> s.joint(LONG, 5, 5, 100, 0));
        Check.refused("no part, 30 joints", Check.NO_SUCH, Shops::full, s -> s.joint(LONG, 40, 0, 100, 0));
        Check.refused("no other, 30 joints", Check.NO_SUCH, Shops::full, s -> s.joint(LONG, 0, 40, 100, 0));
        Check.refused("no other, too long", Check.NO_SUCH, Shops::busy, s -> s.joint(LONG, 0, 5, 1001, 0));
        Check.refused("no other, blunt", Check.NO_SUCH, EdgeTermsCallsTest::blunt, s -> s.joint(LONG, 0, 2, 9, 0));
        Check.refused("kind, 30 joints", Check.RANGE, Shops::full, s -> s.joint(3, 0, 1, 100, 0));
        Check.refused("size, 30 joints", Check.RANGE, Shops::full, s -> s.joint(LONG, 0, 1, 9, 0));
        Check.refused("tongue, 30 joints", Check.RANGE, Shops::full, s -> s.joint(LONG, 0, 1, 100, 1));
        Check.refused("the same, 30 joints", Check.RANGE, Shops::full, s -> s.joint(LONG, 1, 1, 100, 0));
        Check.refused("size, blunt", Check.RANGE, EdgeTermsCallsTest::blunt, s -> s.joint(LONG, 0, 1, 9, 0));
        Check.refused("the same, blunt", Check.RANGE, EdgeTermsCallsTest::blunt, s -> s.joint(LONG, 0, 0, 100, 0));
        Check.refused("the same, too long", Check.RANGE, Shops::busy, s -> s.joint(LONG, 0, 0, 1001, 0));
        Check.refused("tongue, too wide", Check.RANGE, Shops::busy,
                s -> s.joint(DovetailRow.FLOAT, 0, 1, 1500, 201));
        Check.refused("all", Check.NO_SUCH, Shops::full, s -> s.joint(LONG, 40, 40, 9, 0));
    }

    private static void firstOfGluing() {
        Check.refused("no joint, not lower", Check.NO_SUCH, Shops::busy, s -> s.need(7, 7));
        Check.refused("none needed, not lower", Check.NO_SUCH, Shops::busy, s -> s.need(6, 7));
        Check.refused("no joint, lower", Check.NO_SUCH, Shops::busy, s -> s.need(-1, -2));
        Check.refused("none needed, glued", Check.NO_SUCH, Shops::busy, s -> s.need(4, -1));
        Check.refused("not lower, glued", Check.RANGE, Shops::busy, s -> s.need(4, 4));
        Check.refused("not lower, broken", Check.RANGE, Shops::busy, s -> s.need(0, 1));
        Check.refused("none, not lower, glued", Check.NO_SUCH, Shops::busy, s -> s.need(4, 7));
        Check.refused("one that there is not, glued", Check.RANGE, Shops::busy, s -> s.glue(128 + 2));
        Check.refused("below 0, glued", Check.RANGE, Shops::busy, s -> s.glue(Integer.MIN_VALUE + 2));
        Check.refused("one that there is not, too long", Check.RANGE, Shops::full, s -> s.glue(Integer.MAX_VALUE));
        Check.refused("no joint, months", Check.NO_SUCH, Shops::busy, s -> s.breaksIn(7, 0));
        Check.refused("months, broken", Check.RANGE, Shops::busy, s -> s.breaksIn(0, 25));
        Check.refused("months, dry", Check.RANGE, Shops::busy, s -> s.breaksIn(5, 0));
    }

    private static void firstOfAsking() {
        Check.refused("no board, what", Check.NO_SUCH, Shops::busy, s -> s.ofBoard(3, 3));
        Check.refused("no part, what", Check.NO_SUCH, Shops::busy, s -> s.ofPart(5, 5));
        Check.refused("no joint, what", Check.NO_SUCH, Shops::busy, s -> s.ofJoint(7, 5));
        Check.refused("no board of none, what", Check.NO_SUCH, Shops::empty, s -> s.ofBoard(0, -1));
        Check.refused("no part of none, what", Check.NO_SUCH, Shops::empty, s -> s.ofPart(0, -1));
        Check.refused("no joint of none, what", Check.NO_SUCH, Shops::empty, s -> s.ofJoint(0, -1));
    }

    private static void roundings() {
        // 7 / 4 either way
        Check.answers("moister by 1.75", 101, () -> oak(2000, 100, 107), s -> s.ofBoard(0, 0));
        Check.answers("drier by 1.75", 99, () -> oak(2000, 100, 93), s -> s.ofBoard(0, 0));
        // 1999 * 5 * 2 / 10000 = 1.999 either way
        Check.answers("wider by 1.999", 2000, () -> oak(1999, 100, 108), s -> s.ofBoard(0, 1));
        Check.answers("less wide by 1.999", 1998, () -> oak(1999, 100, 92), s -> s.ofBoard(0, 1));
        Check.answers("less wide by 0.9995", 1999, () -> oak(1999, 100, 96), s -> s.ofBoard(0, 1));
        // 749 * 5 * 16 / 10000 = 5.992; 799 * 5 * 15 / 10000 = 5.9925
        Check.answers("a CROSS by 5.992", 0, () -> cross(749, 164), s -> s.pass(1));
        Check.answers("a CROSS by -5.9925", 0, () -> cross(799, 40), s -> s.pass(1));
        Check.answers("1.999 minutes", 4, () -> Shops.longJoints(99, 1999), s -> s.glue(1));
        Check.answers("1.998 clamps", 3, () -> Shops.longJoints(2, 999), s -> s.glue(1));
    }

    /** An oak board that was as moist, after a month in the air. */
    private static DovetailRow oak(int width, int moisture, int air) {
        DovetailRow shop = Shops.in(air);
        shop.board(DovetailRow.OAK, 0, 0, width, 1000, moisture);
        shop.pass(1);
        return shop;
    }

    private static DovetailRow cross(int size, int air) {
        return Shops.oneJoint(DovetailRow.OAK, 1000, DovetailRow.CROSS, size, 0, air);
    }

    private static void sets() {
        DovetailRow shop = Shops.full();
        Check.due("to need 0", shop.need(29, 0), 1);
        Check.due("to need 28 too", shop.need(29, 28), (1 << 28) + 1);
        Check.due("what 29 needs", shop.ofJoint(29, 2), (1 << 28) + 1);
        Check.due("to glue 0", shop.glue(1), 3);
        Check.due("0 is glued", shop.ofJoint(0, 0), DovetailRow.WHOLE);
        Check.due("1 is not", shop.ofJoint(1, 0), DovetailRow.DRY);
        Check.due("to glue 28 and 29", shop.glue((1 << 28) + (1 << 29)), 6);
        Check.due("28 is glued", shop.ofJoint(28, 0), DovetailRow.WHOLE);
        Check.due("29 is glued", shop.ofJoint(29, 0), DovetailRow.WHOLE);
        Check.due("27 is not", shop.ofJoint(27, 0), DovetailRow.DRY);
        Check.answers("0 would break", 1, () -> cross(750, 164), s -> s.through(1));
    }
}
