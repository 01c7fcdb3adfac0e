/** Promise 9: coat. */
public final class P09CoatTest {
    public static void main(String[] args) {
        DovetailRow shop = Shops.threeParts();
        for (int coats = 1; coats <= 6; coats++) {
            Check.due("coat " + coats, shop.coat(2), coats);
            Check.due("its coats", shop.ofPart(2, 3), coats);
        }
        Check.due("a coat of another part", shop.coat(0), 1);
        Check.due("a part without", shop.ofPart(1, 3), 0);

        Check.refused("part -1", Check.NO_SUCH, Shops::threeParts, s -> s.coat(-1));
        Check.refused("part 3", Check.NO_SUCH, Shops::threeParts, s -> s.coat(3));
        Check.refused("part far off", Check.NO_SUCH, Shops::threeParts, s -> s.coat(Integer.MAX_VALUE));
        Check.refused("a seventh", Check.STATE, P09CoatTest::sixCoats, s -> s.coat(1));
        Check.refused("no such part", Check.NO_SUCH, P09CoatTest::sixCoats, s -> s.coat(3));
        Check.end();
    }

    private static DovetailRow sixCoats() {
        DovetailRow shop = Shops.threeParts();
        for (int i = 0; i < 6; i++) {
            shop.coat(1);
        }
        return shop;
    }
}
