/** Promise 20, row by row: ofPart. */
public final class Edge20OfPartTest {
    public static void main(String[] args) {
        Sentence.holds("`part`: a part", Edge20OfPartTest::aPart);
        Sentence.holds("`what`: 0 its board, 1 how wide it is now, 2 how moist it is, 3 its coats, 4 from where on it "
                + "was cut", Edge20OfPartTest::what);
        Sentence.holds("Tells of a part: 0 its board", Edge20OfPartTest::itsBoard);
        Sentence.holds("1 how wide it is now, 2 how moist it is", Edge20OfPartTest::howWideAndMoist);
        Sentence.holds("3 its coats", Edge20OfPartTest::coats);
        Sentence.holds("4 from where on it was cut", Edge20OfPartTest::fromWhereOn);
        Sentence.holds("Throws `IndexOutOfBoundsException` if there is no such part", Edge20OfPartTest::noPart);
        Sentence.holds("Throws `IllegalArgumentException` if what is out of its range",
                Edge20OfPartTest::outOfItsRange);
        Sentence.end();
    }

    private static void aPart() {
        Edge.range(Check.NO_SUCH, 0, 4, Shops::busy, (s, i) -> s.ofPart(i, 0));
        Edge.range(Check.NO_SUCH, 0, 39, Shops::full, (s, i) -> s.ofPart(i, 4));
    }

    private static void what() {
        Edge.range(Check.RANGE, 0, 4, Shops::busy, (s, i) -> s.ofPart(0, i));
        Edge.range(Check.RANGE, 0, 4, Shops::full, (s, i) -> s.ofPart(39, i));
    }

    private static void itsBoard() {
        Check.answers("the first", 0, Shops::full, s -> s.ofPart(1, 0));
        Check.answers("the last", 19, Shops::full, s -> s.ofPart(38, 0));
        Check.answers("of the last part", 19, Shops::full, s -> s.ofPart(39, 0));
    }

    /** An oak part as wide as can be, cut at this moisture, after so many months in this air. */
    private static DovetailRow oak(int moisture, int air, int months) {
        DovetailRow shop = Shops.in(air);
        shop.board(DovetailRow.OAK, 0, 0, 6000, 1000, moisture);
        shop.cut(0, 0, 10, 6000, false);
        return Shops.later(shop, months);
    }

    private static void howWideAndMoist() {
        Check.answers("as it is cut", 6000, () -> oak(40, 300, 0), s -> s.ofPart(0, 1));
        Check.answers("as moist as it is cut", 40, () -> oak(40, 300, 0), s -> s.ofPart(0, 2));
        Check.answers("the widest", 6780, () -> oak(40, 300, 48), s -> s.ofPart(0, 1));
        Check.answers("the dampest", 300, () -> oak(40, 300, 48), s -> s.ofPart(0, 2));
        Check.answers("the least wide", 5220, () -> oak(300, 40, 48), s -> s.ofPart(0, 1));
        Check.answers("the driest", 40, () -> oak(300, 40, 48), s -> s.ofPart(0, 2));
        Check.answers("after a month", 6195, () -> oak(40, 300, 1), s -> s.ofPart(0, 1));
    }

    private static void coats() {
        for (int coats = 0; coats <= 6; coats++) {
            DovetailRow shop = oak(100, 100, 0);
            for (int i = 0; i < coats; i++) {
                shop.coat(0);
            }
            Check.due("coats", shop.ofPart(0, 3), coats);
        }
    }

    private static void fromWhereOn() {
        DovetailRow shop = new DovetailRow();
        shop.board(DovetailRow.PINE, 0, 0, 100, 30000, 100);
        shop.cut(0, 29990, 10, 10, false);
        shop.cut(0, 0, 10, 10, false);
        Check.due("the farthest", shop.ofPart(0, 4), 29990);
        Check.due("the first place", shop.ofPart(1, 4), 0);
    }

    private static void noPart() {
        Check.refused("none of none", Check.NO_SUCH, Shops::oneBoard, s -> s.ofPart(0, 0));
        for (int what = 0; what <= 4; what++) {
            int asked = what;
            Edge.beyond(Check.NO_SUCH, 0, 4, Shops::busy, (s, i) -> s.ofPart(i, asked));
        }
    }

    private static void outOfItsRange() {
        for (int part = 0; part < 5; part++) {
            int one = part;
            Edge.beyond(Check.RANGE, 0, 4, Shops::busy, (s, i) -> s.ofPart(one, i));
        }
    }
}
