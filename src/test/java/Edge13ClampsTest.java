/** Promise 13, row by row: clamps. */
public final class Edge13ClampsTest {
    public static void main(String[] args) {
        Sentence.holds("Sets how many clamps there are.", Edge13ClampsTest::sets);
        Sentence.holds("`clamps`: 1 to 99", Edge13ClampsTest::oneTo99);
        Sentence.holds("Returns the number before.", Edge13ClampsTest::theNumberBefore);
        Sentence.holds("Throws `IllegalArgumentException` if clamps is out of its range",
                Edge13ClampsTest::outOfItsRange);
        Sentence.end();
    }

    // A joint of 10 needs 1 clamp, one of 500 needs 2.
    private static void sets() {
        DovetailRow shop = Shops.longJoints(1, 10, 500);
        Check.due("1 of 1", shop.glue(1), 3);
        Check.refusedNow("2 of 1", Check.STATE, shop, s -> s.glue(2));
        shop.clamps(2);
        Check.due("2 of 2", shop.glue(2), 3);
    }

    private static void oneTo99() {
        Edge.range(Check.RANGE, 1, 99, Shops::busy, (s, i) -> s.clamps(i));
    }

    private static void theNumberBefore() {
        DovetailRow shop = new DovetailRow();
        Check.due("at first", shop.clamps(99), 6);
        Check.due("the most", shop.clamps(1), 99);
        Check.due("the least", shop.clamps(1), 1);
        Check.due("the same again", shop.clamps(6), 1);
        // To glue takes up clamps only while it goes on.
        DovetailRow glued = Shops.longJoints(56, 27999);
        glued.glue(1);
        Check.due("after all were used", glued.clamps(1), 56);
    }

    private static void outOfItsRange() {
        Edge.beyond(Check.RANGE, 1, 99, Shops::empty, (s, i) -> s.clamps(i));
        Check.refused("-1", Check.RANGE, Shops::empty, s -> s.clamps(-1));
    }
}
