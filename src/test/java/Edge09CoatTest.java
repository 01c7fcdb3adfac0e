/** Promise 9, row by row: coat. */
public final class Edge09CoatTest {
    public static void main(String[] args) {
        Sentence.holds("Gives a part a coat.", Edge09CoatTest::gives);
        Sentence.holds("`part`: a part", Edge09CoatTest::aPart);
        Sentence.holds("Returns how many it has then.", Edge09CoatTest::howMany);
        Sentence.holds("Throws `IndexOutOfBoundsException` if there is no such part", Edge09CoatTest::noPart);
        Sentence.holds("Throws `IllegalStateException` if it has 6", Edge09CoatTest::hasSix);
        Sentence.end();
    }

    private static void gives() {
        DovetailRow shop = Shops.threeParts();
        shop.coat(1);
        Check.due("the part", shop.ofPart(1, 3), 1);
        Check.due("the one before", shop.ofPart(0, 3), 0);
        Check.due("the one behind", shop.ofPart(2, 3), 0);
        shop.pass(1);
        // 200 to 100: by 100 / 5, or by 100 / 4
        Check.due("slower", shop.ofPart(1, 2), 180);
        Check.due("not the other", shop.ofPart(0, 2), 175);
    }

    private static void aPart() {
        Edge.range(Check.NO_SUCH, 0, 4, Shops::busy, (s, i) -> s.coat(i));
        Edge.range(Check.NO_SUCH, 0, 39, Shops::full, (s, i) -> s.coat(i));
    }

    private static DovetailRow coated(int coats) {
        DovetailRow shop = Shops.threeParts();
        for (int i = 0; i < coats; i++) {
            shop.coat(0);
        }
        return shop;
    }

    private static void howMany() {
        for (int coats = 0; coats < 6; coats++) {
            int had = coats;
            Check.answers("with " + coats, coats + 1, () -> coated(had), s -> s.coat(0));
        }
        Check.answers("of another part", 1, () -> coated(6), s -> s.coat(1));
    }

    private static void noPart() {
        Check.refused("of none", Check.NO_SUCH, Shops::oneBoard, s -> s.coat(0));
        Edge.beyond(Check.NO_SUCH, 0, 2, () -> coated(6), (s, i) -> s.coat(i));
    }

    private static void hasSix() {
        Check.answers("a sixth", 6, () -> coated(5), s -> s.coat(0));
        Check.refused("a seventh", Check.STATE, () -> coated(6), s -> s.coat(0));
    }
}
